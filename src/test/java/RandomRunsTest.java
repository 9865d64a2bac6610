import java.util.ArrayList;
import java.util.List;
import java.util.NoSuchElementException;
import java.util.Random;

/** Random runs of calls, the class's answers against the model's. */
public final class RandomRunsTest {
    private static final String[] NAMES = {"a", "b", "c", "told", "which", "nodes", "abcdefgh", "z", "nn", "mm",
        "kk", "ll", "oo", "pp", "qq", "rr", "ss", "tt", "uu", "vv", "ww"};
    private final Random random;
    /** Whether many come and go. */
    private final boolean wild;
    private final NameRing ring = new NameRing();
    private final Model model = new Model();
    private final List<String> log = new ArrayList<>();
    private int calls;

    private RandomRunsTest(long seed) {
        random = new Random(seed);
        wild = random.nextBoolean();
    }

    public static void main(String[] args) {
        int runs = args.length > 0 ? Integer.parseInt(args[0]) : 2000;
        for (int seed = 0; seed < runs; seed++) {
            RandomRunsTest run = new RandomRunsTest(seed);
            String wrong = run.go();
            if (wrong != null) {
                run.log.forEach(System.out::println);
                System.out.println("seed " + seed + ": " + wrong);
                System.exit(1);
            }
        }
        System.out.println(runs + " random runs are as the model");
    }

    private int below(int m) {
        return random.nextInt(m);
    }

    private String go() {
        try {
            tellRing(0.0);
            // a text takes some hundred calls, and an object serves 512
            while (calls < 380) {
                int r = below(100);
                if (r < 1) {
                    tellRing(0.8);
                } else if (r < 2) {
                    tellWork();
                } else if (r < 60) {
                    deed();
                } else {
                    question();
                }
            }
            return null;
        } catch (IllegalStateException e) {
            return e.getMessage();
        }
    }

    private void same(String call, long got, long due) {
        calls++;
        log.add(call + " -> " + got);
        if (got != due) {
            throw new IllegalStateException(call + " answered " + got + ", the model " + due + "; " + model);
        }
    }

    private void same(String call, boolean got, boolean due) {
        same(call, got ? 1 : 0, due ? 1 : 0);
    }

    // ---- texts

    private String law(int depth) {
        int r = below(depth > 6 ? 6 : 12);
        if (depth == 0 && below(30) == 0) {
            return "told + " + "( ".repeat(1 + below(5)) + law(5) + " )".repeat(1 + below(5));
        }
        switch (r) {
            case 0: case 1: return "told";
            case 2: return "which";
            case 3: return "circle";
            case 4: return "nodes";
            case 5: return "" + below(below(2) == 0 ? 10 : 10000);
            case 6: return "not " + law(depth + 1 + below(3));
            case 7: return "( " + law(depth + 1) + " )";
            default:
                String[] ops = {"+", "-", "*", "<", "=", "and", "or"};
                return law(depth + 2) + " " + ops[below(ops.length)] + " " + law(depth + 2);
        }
    }

    private String ringText() {
        StringBuilder text = new StringBuilder();
        int circle = below(3) == 0 ? 8 + below(8) : below(3) == 0 ? 256 : 8 + below(249);
        List<String> names = new ArrayList<>(List.of(NAMES));
        java.util.Collections.shuffle(names, random);
        boolean law = below(2) == 0;
        if (law && below(2) == 0) {
            text.append("lies ").append(law(0)).append(" ; ");
            law = false;
        }
        if (below(20) > 0) {
            text.append("circle ").append(circle).append(" ; ");
        }
        if (below(4) > 0) {
            text.append("list ").append(1 + below(4)).append(";");
        }
        List<Integer> places = new ArrayList<>();
        for (int i = 0; i < circle; i++) {
            places.add(i);
        }
        java.util.Collections.shuffle(places, random);
        int nodes = below(15) == 0 ? 9 : below(3) == 0 ? below(9) : 4 + below(5);
        int keys = below(15) == 0 ? 11 : below(11);
        for (int i = 0; i < nodes; i++) {
            int kind = below(8);
            text.append("node ").append(names.get(i)).append(' ')
                    .append(Model.KINDS.get(kind < 4 ? kind : 0)).append(" at ").append(places.get(i % places.size())).append(" ;\n");
        }
        for (int i = 0; i < keys; i++) {
            text.append("key ").append(names.get(9 + i)).append(" at").append(below(1000)).append(" ; ");
        }
        if (law) {
            text.append("lies ").append(law(0)).append(" ; ");
        }
        return text.toString();
    }

    private String spoiled(String text) {
        String[] words = {"circle", "list", "node", "key", "at", "lies", "begin", "not", "(", ")", "and", ";", "<",
            "9999", "0", "12345", "ninelette", "!", "A", "nn", "a", "told", "shy", "not not not not not not", "((((((", "node", "key"};
        StringBuilder b = new StringBuilder(text);
        for (int n = 1 + below(2); n > 0; n--) {
            int at = below(b.length() + 1);
            switch (below(5)) {
                case 0: b.insert(at, words[below(words.length)]); break;
                case 1: b.insert(at, " " + words[below(words.length)] + " "); break;
                case 2: b.delete(at, Math.min(b.length(), at + 1 + below(6))); break;
                case 3: b.setLength(at); break;
                default: b.append(text, 0, below(text.length() + 1)); break;
            }
        }
        return b.toString();
    }

    private void tell(String text) {
        for (int i = 0; i < text.length(); i += 24) {
            long[] parts = new long[3];
            for (int j = 0; j < 24; j++) {
                int sign = i + j < text.length() ? text.charAt(i + j) : below(2) == 0 ? 0 : 127 + below(129);
                parts[j / 8] = parts[j / 8] << 8 | sign;
            }
            same("feed '" + text.substring(i, Math.min(i + 24, text.length())) + "'",
                    ring.feed(parts[0], parts[1], parts[2]), model.feed(parts[0], parts[1], parts[2]));
        }
    }

    private void tellRing(double spoil) {
        String text = ringText();
        if (below(40) == 0) {
            text += " ".repeat(1000) + "circle";
        }
        tell(random.nextDouble() < spoil ? spoiled(text) : text);
        same("count 9", ring.count(9), model.count(9));
        same("ring", ring.ring(), model.ring());
        for (int k = -1; k < 11; k++) {
            same("key " + k, ring.key(k, 0), model.key(k, 0));
        }
    }

    private String name() {
        List<String> all = new ArrayList<>(model.ring.names);
        if (below(40) == 0 || all.isEmpty()) {
            all = new ArrayList<>(List.of(NAMES));
        }
        return all.get(below(all.size()));
    }

    private void tellWork() {
        StringBuilder text = new StringBuilder();
        int lines = below(8) == 0 ? 38 + below(5) : below(30);
        for (int i = 0; i < lines && text.length() < 980; i++) {
            String deed = i == 0 ? "begin" : i < 5 ? "join" : Model.DEEDS.get(below(9));
            text.append(deed).append(' ');
            if (deed.equals("put")) {
                List<String> keys = model.ring.keyNames;
                text.append(keys.isEmpty() ? "kk" : keys.get(below(keys.size())));
            } else {
                text.append(name());
            }
            if (deed.equals("put") || deed.equals("join")) {
                text.append(' ').append(name());
            } else if (deed.equals("fix")) {
                text.append(' ').append(below(30) == 0 ? 8 : below(8));
            }
            text.append(" ;");
        }
        tell(below(4) == 0 && text.length() > 0 ? spoiled(text.toString()) : text.toString());
        same("work", ring.work(), model.work());
        for (int i = -1; i < 4; i++) {
            same("judged " + i, ring.judged(i), model.judged(i));
        }
    }

    // ---- calls

    private int someNode() {
        return below(30) == 0 ? below(2) == 0 ? -1 : 8 + below(40) : below(Math.max(1, model.ring.names.size()));
    }

    /** Mostly one that is IN (or OUT), so that most deeds can be. */
    private int someNode(boolean in) {
        List<Integer> all = new ArrayList<>();
        for (int n = 0; n < model.ring.names.size(); n++) {
            if (model.in(n) == in) {
                all.add(n);
            }
        }
        return all.isEmpty() || below(15) == 0 ? someNode() : all.get(below(all.size()));
    }

    private int someKey() {
        return below(30) == 0 ? below(2) == 0 ? -1 : 10 + below(40) : below(Math.max(1, model.ring.keyNames.size()));
    }

    private int somePlace() {
        return below(30) == 0 ? below(2) == 0 ? -1 : model.ring.circle : below(Math.max(1, model.ring.circle));
    }

    private void deed() {
        int n = someNode(true);
        int o = someNode(true);
        int out = someNode(false);
        int k = someKey();
        int i = below(20) == 0 ? -1 + below(50) : below(8);
        int deed = below(26);
        if (wild && below(3) == 0) {
            deed = 1 + below(9);
        }
        switch (deed) {
            case 0: same("start " + n, ring.start(n), model.start(n)); break;
            case 1: case 2: case 3: case 4: case 5: case 6: same("join " + out + " " + o, ring.join(out, o), model.join(out, o)); break;
            case 7: if (wild || below(3) == 0) same("leave " + n, ring.leave(n), model.leave(n)); break;
            case 8: case 9: if (wild || below(5) == 0) same("fail " + n, ring.fail(n), model.fail(n)); break;
            case 10: case 11: case 12: case 13: case 14: same("tidy " + n, ring.tidy(n), model.tidy(n)); break;
            case 15: same("flush " + n, ring.flush(n), model.flush(n)); break;
            case 16: case 17: same("fix " + n + " " + i, ring.fix(n, i), model.fix(n, i)); break;
            case 18: same("mend " + n, ring.mend(n), model.mend(n)); break;
            case 19: case 20: case 21: case 22: same("put " + k + " " + o, ring.put(k, o), model.put(k, o)); break;
            case 23: same("hand " + n, ring.hand(n), model.hand(n)); break;
            case 24: same("undo", ring.undo(), model.undo()); break;
            default: {
                int m = below(6) - 1;
                boolean back = below(2) == 0;
                same("mark " + m + back, ring.mark(m, back), model.mark(m, back));
                break;
            }
        }
        if (model.now.lists.isEmpty() && below(4) > 0) {
            same("start " + out, ring.start(out), model.start(out));
        }
    }

    private void question() {
        int n = below(6) == 0 ? someNode() : someNode(true);
        int k = someKey();
        int p = somePlace();
        int i = below(12) - 2;
        switch (below(36)) {
            case 0: case 1: same("node " + n + " " + i, ring.node(n, i), model.node(n, i)); break;
            case 2: case 3: same("listed " + n + " " + i, ring.listed(n, i), model.listed(n, i)); break;
            case 4: same("finger " + n + " " + i, ring.finger(n, i), model.finger(n, i)); break;
            case 5: same("key " + k + " " + i, ring.key(k, i), model.key(k, i)); break;
            case 6: same("judged " + i, ring.judged(i), model.judged(i)); break;
            case 7: same("find " + n + " " + p, ring.find(n, p), model.find(n, p)); break;
            case 8: same("steps " + n + " " + p, ring.steps(n, p), model.steps(n, p)); break;
            case 9: routes(n, p, i); break;
            case 10: same("astray", ring.astray(), model.astray()); break;
            case 11: same("lost", ring.lost(), model.lost()); break;
            case 12: same("cycles " + i, ring.cycles(i), model.cycles(i)); break;
            case 13: same("ordered", ring.ordered(), model.ordered()); break;
            case 14: same("amiss", ring.amiss(), model.amiss()); break;
            case 15: same("behind", ring.behind(), model.behind()); break;
            case 16: same("rests", ring.rests(), model.rests()); break;
            case 17: case 18: {
                int rounds = below(34) - 2;
                int what = below(6) - 1;
                same("after " + rounds + " " + what, ring.after(rounds, what), model.after(rounds, what));
                break;
            }
            case 19: same("wrongs " + n, ring.wrongs(n), model.wrongs(n)); break;
            case 20: same("far " + n, ring.far(n), model.far(n)); break;
            case 21: same("arc " + n, ring.arc(n), model.arc(n)); break;
            case 22: same("load " + n, ring.load(n), model.load(n)); break;
            case 23: same("hosts " + n, ring.hosts(n), model.hosts(n)); break;
            case 24: same("reaches " + n, ring.reaches(n), model.reaches(n)); break;
            case 25: same("heirs " + k + " " + i, ring.heirs(k, i), model.heirs(k, i)); break;
            case 26: same("widest", ring.widest(), model.widest()); break;
            case 27: same("toil " + n, ring.toil(n), model.toil(n)); break;
            case 28: same("risk " + (i & 3), ring.risk(i & 3), model.risk(i & 3)); break;
            case 29: same("moves " + n, ring.moves(n), model.moves(n)); break;
            case 30: {
                int s = below(10) == 0 ? below(24) - 1 : below(4);
                boolean more = below(2) == 0;
                same("see " + p + " " + s + more, ring.see(p, s, more), model.see(p, s, more));
                break;
            }
            case 31: same("who", ring.who(), model.who()); break;
            case 32: same("ask", ring.ask(), model.ask()); break;
            case 33: {
                int seed = below(10040) - 20;
                int many = below(103) - 2;
                int what = below(5) - 1;
                same("drives " + seed + " " + many + " " + what, ring.drives(seed, many, what), model.drives(seed, many, what));
                break;
            }
            default: same("count " + i, ring.count(i), model.count(i)); break;
        }
    }

    private void routes(int n, int p, int wanted) {
        for (int i : new int[] {wanted, 0, 1, 2}) {
            same("route " + n + " " + p + " " + i, routeOf(true, n, p, i), routeOf(false, n, p, i));
        }
    }

    private int routeOf(boolean ofRing, int n, int p, int i) {
        try {
            return ofRing ? ring.route(n, p, i) : model.route(n, p, i);
        } catch (NoSuchElementException e) {
            return -99;
        }
    }
}
