import java.util.ArrayList;
import java.util.Arrays;
import java.util.Collections;
import java.util.Comparator;
import java.util.HashMap;
import java.util.HashSet;
import java.util.LinkedHashSet;
import java.util.List;
import java.util.Map;
import java.util.NoSuchElementException;
import java.util.Set;
import java.util.TreeMap;
import java.util.TreeSet;

/** The document read a second time, in another style than the class's, so that random runs can be compared. */
final class Model {
    static final List<String> RESERVED = List.of("circle", "list", "node", "key", "at", "lies", "begin", "join",
            "leave", "fail", "tidy", "flush", "fix", "put", "hand", "plain", "short", "shy", "blind", "not", "and", "or");
    static final List<String> KINDS = List.of("plain", "short", "shy", "blind");
    static final List<String> DEEDS = List.of("begin", "join", "leave", "fail", "tidy", "flush", "fix", "put", "hand");

    static final class Fault extends Exception {
        private static final long serialVersionUID = 1L;
        final int number;

        Fault(int kind, Token token) {
            number = kind + 16 * token.place;
        }
    }

    /** kind: w word, n number, s sign, x none, e end. */
    record Token(char kind, String text, int place) {
        boolean is(String wanted) {
            return (kind == 'w' || kind == 's') && text.equals(wanted);
        }

        boolean name() {
            return kind == 'w' && !RESERVED.contains(text);
        }
    }

    interface Law {
        int of(int told, int which, int circle, int nodes);
    }

    record Line(String deed, int first, int second) { }

    static final class Ring {
        int circle;
        int list = 2;
        final List<String> names = new ArrayList<>();
        final List<String> kinds = new ArrayList<>();
        final List<Integer> places = new ArrayList<>();
        final List<String> keyNames = new ArrayList<>();
        final List<Integer> keyTold = new ArrayList<>();
        Law law = (told, which, circle, nodes) -> told;

        int lie(int key) {
            return circle == 0 ? 0 : Math.floorMod(law.of(keyTold.get(key), key, circle, names.size()), circle);
        }
    }

    /** Who is IN has an entry in lists. */
    static final class Now {
        final TreeMap<Integer, List<Integer>> lists = new TreeMap<>();
        final TreeMap<Integer, Integer> ahead = new TreeMap<>();
        final TreeMap<Integer, TreeMap<Integer, Integer>> fingers = new TreeMap<>();
        final TreeMap<Integer, Integer> holders = new TreeMap<>();

        Now copy() {
            Now c = new Now();
            lists.forEach((k, v) -> c.lists.put(k, new ArrayList<>(v)));
            c.ahead.putAll(ahead);
            fingers.forEach((k, v) -> c.fingers.put(k, new TreeMap<>(v)));
            c.holders.putAll(holders);
            return c;
        }

        boolean same(Now o) {
            return lists.equals(o.lists) && ahead.equals(o.ahead) && fingers.equals(o.fingers) && holders.equals(o.holders);
        }
    }

    record Sight(int place, int steps, boolean more) { }

    record Mark(Now now, List<Sight> seen) { }

    String tape = "";
    Ring ring = new Ring();
    List<Line> work = new ArrayList<>();
    Now now = new Now();
    final List<Now> undo = new ArrayList<>();
    List<Sight> seen = new ArrayList<>();
    final Map<Integer, Mark> marks = new HashMap<>();

    // ---- the language

    private List<Token> tokens;
    private int pos;

    static List<Token> tokensOf(String text) {
        List<Token> all = new ArrayList<>();
        java.util.regex.Matcher m = java.util.regex.Pattern.compile("[a-z]+|[0-9]+|[^ \\n]").matcher(text);
        while (m.find()) {
            String t = m.group();
            char c = t.charAt(0);
            char kind = c >= 'a' && c <= 'z' ? t.length() > 8 ? 'x' : 'w'
                    : c >= '0' && c <= '9' ? t.length() > 4 ? 'x' : 'n' : "()<=+-*;".indexOf(c) >= 0 ? 's' : 'x';
            all.add(new Token(kind, t, m.start()));
        }
        all.add(new Token('e', "", text.length()));
        return all;
    }

    private Token peek() {
        return tokens.get(pos);
    }

    private Token take() {
        return tokens.get(pos++);
    }

    private void need(String text) throws Fault {
        if (!peek().is(text)) {
            throw new Fault(1, peek());
        }
        pos++;
    }

    private int number(int least, int most) throws Fault {
        if (peek().kind != 'n') {
            throw new Fault(1, peek());
        }
        int n = Integer.parseInt(peek().text);
        if (n < least || n > most) {
            throw new Fault(4, peek());
        }
        return n;
    }

    private String newName(Ring r) throws Fault {
        if (!peek().name()) {
            throw new Fault(1, peek());
        }
        if (r.names.contains(peek().text) || r.keyNames.contains(peek().text)) {
            throw new Fault(3, peek());
        }
        return take().text;
    }

    private Ring readRing() throws Fault {
        Ring r = new Ring();
        Set<String> once = new HashSet<>();
        while (peek().kind != 'e') {
            Token t = peek();
            if (t.kind != 'w' || !List.of("circle", "list", "node", "key", "lies").contains(t.text)) {
                throw new Fault(1, t);
            }
            if (List.of("circle", "list", "lies").contains(t.text) && !once.add(t.text)) {
                throw new Fault(3, t);
            }
            if (t.text.equals("node") && r.names.size() == 8 || t.text.equals("key") && r.keyNames.size() == 10) {
                throw new Fault(5, t);
            }
            pos++;
            switch (t.text) {
                case "circle" -> {
                    r.circle = number(8, 256);
                    pos++;
                }
                case "list" -> {
                    r.list = number(1, 4);
                    pos++;
                }
                case "node" -> readNode(r);
                case "key" -> {
                    String name = newName(r);
                    need("at");
                    int at = number(0, 999);
                    pos++;
                    r.keyNames.add(name);
                    r.keyTold.add(at);
                }
                default -> r.law = all(0);
            }
            need(";");
        }
        return r;
    }

    private void readNode(Ring r) throws Fault {
        String name = newName(r);
        if (peek().kind != 'w' || !KINDS.contains(peek().text)) {
            throw new Fault(1, peek());
        }
        String kind = take().text;
        need("at");
        int at = number(0, r.circle - 1);
        if (r.places.contains(at)) {
            throw new Fault(3, peek());
        }
        pos++;
        r.names.add(name);
        r.kinds.add(kind);
        r.places.add(at);
    }

    private Law all(int within) throws Fault {
        Law left = test(within);
        while (peek().is("and") || peek().is("or")) {
            boolean and = take().text.equals("and");
            Law a = left;
            Law b = test(within);
            left = (t, w, c, n) -> {
                boolean x = a.of(t, w, c, n) != 0;
                boolean y = b.of(t, w, c, n) != 0;
                return (and ? x && y : x || y) ? 1 : 0;
            };
        }
        return left;
    }

    private Law test(int within) throws Fault {
        Law a = sum(within);
        if (peek().is("<")) {
            pos++;
            Law b = sum(within);
            return (t, w, c, n) -> a.of(t, w, c, n) < b.of(t, w, c, n) ? 1 : 0;
        }
        if (peek().is("=")) {
            pos++;
            Law b = sum(within);
            return (t, w, c, n) -> a.of(t, w, c, n) == b.of(t, w, c, n) ? 1 : 0;
        }
        return a;
    }

    private Law sum(int within) throws Fault {
        Law left = product(within);
        while (peek().is("+") || peek().is("-")) {
            int sign = take().text.equals("+") ? 1 : -1;
            Law a = left;
            Law b = product(within);
            left = (t, w, c, n) -> a.of(t, w, c, n) + sign * b.of(t, w, c, n);
        }
        return left;
    }

    private Law product(int within) throws Fault {
        Law left = part(within);
        while (peek().is("*")) {
            pos++;
            Law a = left;
            Law b = part(within);
            left = (t, w, c, n) -> a.of(t, w, c, n) * b.of(t, w, c, n);
        }
        return left;
    }

    private Law part(int within) throws Fault {
        Token token = peek();
        boolean fact = token.kind == 'w' && List.of("told", "which", "circle", "nodes").contains(token.text);
        if (token.kind != 'n' && !fact && !token.is("not") && !token.is("(")) {
            throw new Fault(1, token);
        }
        if (within == 5) {
            throw new Fault(5, token);
        }
        pos++;
        if (token.kind == 'n') {
            int number = Integer.parseInt(token.text);
            return (t, w, c, n) -> number;
        }
        switch (token.text) {
            case "told":
                return (t, w, c, n) -> t;
            case "which":
                return (t, w, c, n) -> w;
            case "circle":
                return (t, w, c, n) -> c;
            case "nodes":
                return (t, w, c, n) -> n;
            case "not":
                Law a = part(within + 1);
                return (t, w, c, n) -> a.of(t, w, c, n) == 0 ? 1 : 0;
            default:
                Law inner = all(within + 1);
                need(")");
                return inner;
        }
    }

    private int name(List<String> names) throws Fault {
        if (!peek().name()) {
            throw new Fault(1, peek());
        }
        if (!names.contains(peek().text)) {
            throw new Fault(2, peek());
        }
        return names.indexOf(take().text);
    }

    private List<Line> readWork() throws Fault {
        List<Line> lines = new ArrayList<>();
        while (peek().kind != 'e') {
            Token t = peek();
            if (t.kind != 'w' || !DEEDS.contains(t.text)) {
                throw new Fault(1, t);
            }
            if (lines.size() == 40) {
                throw new Fault(5, t);
            }
            pos++;
            int first = name(t.text.equals("put") ? ring.keyNames : ring.names);
            int second = -1;
            if (t.text.equals("join") || t.text.equals("put")) {
                second = name(ring.names);
            } else if (t.text.equals("fix")) {
                second = number(0, 7);
                pos++;
            }
            need(";");
            lines.add(new Line(t.text, first, second));
        }
        return lines;
    }

    int feed(long a, long b, long c) {
        for (long part : new long[] {a, b, c}) {
            for (byte sign : java.nio.ByteBuffer.allocate(8).putLong(part).array()) {
                if ((sign == 10 || sign >= 32 && sign != 127) && tape.length() < 1000) {
                    tape += (char) sign;
                }
            }
        }
        return tape.length();
    }

    int ring() {
        tokens = tokensOf(tape);
        tape = "";
        pos = 0;
        try {
            ring = readRing();
        } catch (Fault f) {
            return f.number;
        }
        now = new Now();
        work = new ArrayList<>();
        seen = new ArrayList<>();
        undo.clear();
        marks.clear();
        return 0;
    }

    int work() {
        tokens = tokensOf(tape);
        tape = "";
        pos = 0;
        try {
            work = readWork();
        } catch (Fault f) {
            return f.number;
        }
        return 0;
    }

    // ---- what there is

    boolean isNode(int node) {
        return node >= 0 && node < ring.names.size();
    }

    boolean isKey(int key) {
        return key >= 0 && key < ring.keyNames.size();
    }

    boolean in(int node) {
        return now.lists.containsKey(node);
    }

    int way(int from, int to) {
        int steps = 1;
        while ((from + steps) % ring.circle != to) {
            steps++;
        }
        return steps;
    }

    int place(int node) {
        return ring.places.get(node);
    }

    boolean between(int x, int a, int b) {
        return way(a, x) < way(a, b);
    }

    boolean upTo(int x, int a, int b) {
        return way(a, x) <= way(a, b);
    }

    int first(int node) {
        return in(node) ? now.lists.get(node).stream().filter(this::in).findFirst().orElse(-1) : -1;
    }

    int bits(Iterable<Integer> all) {
        int bits = 0;
        for (int one : all) {
            bits |= 1 << one;
        }
        return bits;
    }

    List<Integer> keysOf(int node) {
        List<Integer> keys = new ArrayList<>();
        now.holders.forEach((k, n) -> {
            if (n == node) {
                keys.add(k);
            }
        });
        return keys;
    }

    /** Who is asked on, and last who is FOUND; null: nobody. */
    List<Integer> path(int node, int place) {
        if (!isNode(node) || !in(node) || place < 0 || place >= ring.circle) {
            return null;
        }
        List<Integer> path = new ArrayList<>();
        int at = node;
        while (true) {
            int f = first(at);
            if (f == -1) {
                return null;
            }
            if (upTo(place, place(at), place(f))) {
                path.add(f);
                return path;
            }
            if (path.size() == 20) {
                return null;
            }
            int here = at;
            Set<Integer> known = new TreeSet<>(now.lists.get(at));
            known.addAll(now.fingers.get(at).values());
            at = known.stream().filter(o -> in(o) && between(place(o), place(here), place))
                    .max(Comparator.comparing(o -> way(place(here), place(o)))).orElseThrow();
            path.add(at);
        }
    }

    int find(int node, int place) {
        List<Integer> path = path(node, place);
        return path == null ? -1 : path.get(path.size() - 1);
    }

    int steps(int node, int place) {
        List<Integer> path = path(node, place);
        return path == null ? -1 : path.size() - 1;
    }

    int route(int node, int place, int i) {
        List<Integer> path = path(node, place);
        if (path == null || i < 0 || i >= path.size() - 1) {
            throw new NoSuchElementException();
        }
        return path.get(i);
    }

    // ---- deeds

    private List<Integer> listBy(int node, int head) {
        LinkedHashSet<Integer> all = new LinkedHashSet<>();
        all.add(head);
        for (int other : now.lists.get(head)) {
            if (other != node) {
                all.add(other);
            }
        }
        int room = ring.kinds.get(node).equals("short") ? 1 : ring.list;
        return new ArrayList<>(new ArrayList<>(all).subList(0, Math.min(room, all.size())));
    }

    private void enter(int node, List<Integer> list) {
        now.lists.put(node, list);
        now.fingers.put(node, new TreeMap<>());
    }

    private void out(int node) {
        now.lists.remove(node);
        now.ahead.remove(node);
        now.fingers.remove(node);
    }

    boolean doStart(int node) {
        if (!isNode(node) || !now.lists.isEmpty()) {
            return false;
        }
        enter(node, new ArrayList<>(List.of(node)));
        return true;
    }

    int doJoin(int node, int by) {
        if (!isNode(node) || in(node) || find(by, place(node)) == -1) {
            return -1;
        }
        int found = find(by, place(node));
        enter(node, listBy(node, found));
        return found;
    }

    boolean doLeave(int node) {
        if (!in(node) || first(node) == -1 || first(node) == node) {
            return false;
        }
        int heir = first(node);
        for (int key : keysOf(node)) {
            now.holders.put(key, heir);
        }
        out(node);
        return true;
    }

    int doFail(int node) {
        if (!in(node)) {
            return -1;
        }
        List<Integer> held = keysOf(node);
        held.forEach(now.holders::remove);
        out(node);
        return held.size();
    }

    int doTidy(int node) {
        if (!in(node) || first(node) == -1) {
            return -1;
        }
        int f = first(node);
        int meant = f;
        if (now.ahead.containsKey(f)) {
            int a = now.ahead.get(f);
            if (in(a) && between(place(a), place(node), place(f))) {
                meant = a;
            }
        }
        now.lists.put(node, listBy(node, meant));
        if (meant != node) {
            Integer a = now.ahead.get(meant);
            if (a == null || !in(a) || between(place(node), place(a), place(meant))) {
                now.ahead.put(meant, node);
                if (!ring.kinds.get(node).equals("shy")) {
                    for (int key : keysOf(meant)) {
                        if (!upTo(ring.lie(key), place(node), place(meant))) {
                            now.holders.put(key, node);
                        }
                    }
                }
            }
        }
        return now.lists.get(node).get(0);
    }

    int doFlush(int node) {
        if (!in(node)) {
            return -1;
        }
        int before = now.lists.get(node).size() + now.fingers.get(node).size();
        now.lists.get(node).removeIf(o -> !in(o));
        now.fingers.get(node).values().removeIf(o -> !in(o));
        if (now.ahead.containsKey(node) && !in(now.ahead.get(node))) {
            now.ahead.remove(node);
        }
        return before - now.lists.get(node).size() - now.fingers.get(node).size();
    }

    boolean doFix(int node, int i) {
        if (!in(node) || ring.kinds.get(node).equals("blind") || i < 0 || i > 7 || 1 << i >= ring.circle) {
            return false;
        }
        int found = find(node, (place(node) + (1 << i)) % ring.circle);
        if (found == -1) {
            now.fingers.get(node).remove(i);
        } else {
            now.fingers.get(node).put(i, found);
        }
        return true;
    }

    int doMend(int node) {
        if (!in(node) || ring.kinds.get(node).equals("blind")) {
            return -1;
        }
        Map<Integer, Integer> before = new TreeMap<>(now.fingers.get(node));
        int others = 0;
        for (int i = 0; i < 8; i++) {
            doFix(node, i);
            Integer was = before.get(i);
            Integer is = now.fingers.get(node).get(i);
            if (was == null ? is != null : !was.equals(is)) {
                others++;
            }
        }
        return others;
    }

    int doPut(int key, int by) {
        int found = isKey(key) ? find(by, ring.lie(key)) : -1;
        if (found != -1) {
            now.holders.put(key, found);
        }
        return found;
    }

    int doHand(int node) {
        if (!in(node)) {
            return -1;
        }
        int went = 0;
        for (int key : keysOf(node)) {
            int found = find(node, ring.lie(key));
            if (found != -1) {
                now.holders.put(key, found);
                went += found == node ? 0 : 1;
            }
        }
        return went;
    }

    private boolean kept(Now before, boolean could) {
        if (could) {
            undo.add(before);
            if (undo.size() > 16) {
                undo.remove(0);
            }
        }
        return could;
    }

    private int kept(Now before, int answer) {
        kept(before, answer != -1);
        return answer;
    }

    boolean start(int node) {
        return kept(now.copy(), doStart(node));
    }

    int join(int node, int by) {
        return kept(now.copy(), doJoin(node, by));
    }

    boolean leave(int node) {
        return kept(now.copy(), doLeave(node));
    }

    int fail(int node) {
        return kept(now.copy(), doFail(node));
    }

    int tidy(int node) {
        return kept(now.copy(), doTidy(node));
    }

    int flush(int node) {
        return kept(now.copy(), doFlush(node));
    }

    boolean fix(int node, int i) {
        return kept(now.copy(), doFix(node, i));
    }

    int mend(int node) {
        return kept(now.copy(), doMend(node));
    }

    int put(int key, int by) {
        return kept(now.copy(), doPut(key, by));
    }

    int hand(int node) {
        return kept(now.copy(), doHand(node));
    }

    boolean undo() {
        if (undo.isEmpty()) {
            return false;
        }
        now = undo.remove(undo.size() - 1);
        return true;
    }

    // ---- questions

    int node(int node, int what) {
        if (!isNode(node)) {
            return -2;
        }
        return switch (what) {
            case 0 -> KINDS.indexOf(ring.kinds.get(node));
            case 1 -> place(node);
            case 2 -> in(node) ? 1 : 0;
            case 3 -> now.ahead.getOrDefault(node, -1);
            case 4 -> first(node);
            case 5 -> bits(keysOf(node));
            default -> -2;
        };
    }

    int listed(int node, int i) {
        return !in(node) || i < 0 || i >= now.lists.get(node).size() ? -1 : now.lists.get(node).get(i);
    }

    int finger(int node, int i) {
        return in(node) ? now.fingers.get(node).getOrDefault(i, -1) : -1;
    }

    List<Integer> heirsOf(int place, Set<Integer> among) {
        List<Integer> all = new ArrayList<>(among);
        all.sort(Comparator.comparing(n -> way(place, place(n)) % ring.circle));
        return all;
    }

    int owner(int place, Set<Integer> among) {
        return among.isEmpty() ? -1 : heirsOf(place, among).get(0);
    }

    int key(int key, int what) {
        if (!isKey(key)) {
            return -2;
        }
        return switch (what) {
            case 0 -> ring.lie(key);
            case 1 -> now.holders.getOrDefault(key, -1);
            case 2 -> owner(ring.lie(key), now.lists.keySet());
            default -> -2;
        };
    }

    int judged(int what) {
        if (what < 0 || what > 2) {
            return -2;
        }
        Now before = now;
        now = new Now();
        int bad = -1;
        for (int i = 0; i < work.size(); i++) {
            Line l = work.get(i);
            boolean could = switch (l.deed) {
                case "begin" -> doStart(l.first);
                case "join" -> doJoin(l.first, l.second) != -1;
                case "leave" -> doLeave(l.first);
                case "fail" -> doFail(l.first) != -1;
                case "tidy" -> doTidy(l.first) != -1;
                case "flush" -> doFlush(l.first) != -1;
                case "fix" -> doFix(l.first, l.second);
                case "put" -> doPut(l.first, l.second) != -1;
                default -> doHand(l.first) != -1;
            };
            if (!could && bad == -1) {
                bad = i;
            }
        }
        int[] answers = {bad, now.lists.size(), now.holders.size()};
        now = before;
        return answers[what];
    }

    int astray() {
        Set<Integer> all = new TreeSet<>();
        now.holders.forEach((k, n) -> {
            if (n != key(k, 2)) {
                all.add(k);
            }
        });
        return bits(all);
    }

    int lost() {
        return bits(keysWhere(k -> !now.holders.containsKey(k)));
    }

    private Set<Integer> keysWhere(java.util.function.IntPredicate p) {
        Set<Integer> all = new TreeSet<>();
        for (int k = 0; k < ring.keyNames.size(); k++) {
            if (p.test(k)) {
                all.add(k);
            }
        }
        return all;
    }

    /** The NODES that one comes to, FOLLOWED; with -1 if there is an end. */
    private List<Integer> followed(int node) {
        List<Integer> all = new ArrayList<>();
        int at = first(node);
        while (at != -1 && !all.contains(at)) {
            all.add(at);
            at = first(at);
        }
        if (at == -1) {
            all.add(-1);
        }
        return all;
    }

    private Set<Set<Integer>> allCycles() {
        Set<Set<Integer>> all = new HashSet<>();
        for (int node : now.lists.keySet()) {
            if (followed(node).contains(node)) {
                all.add(new TreeSet<>(followed(node)));
            }
        }
        return all;
    }

    int cycles(int what) {
        if (what < 0 || what > 3) {
            return -1;
        }
        Set<Integer> on = new TreeSet<>();
        allCycles().forEach(on::addAll);
        Set<Integer> hang = new TreeSet<>();
        Set<Integer> broken = new TreeSet<>();
        for (int node : now.lists.keySet()) {
            if (!on.contains(node) && !Collections.disjoint(followed(node), on)) {
                hang.add(node);
            }
            if (followed(node).contains(-1)) {
                broken.add(node);
            }
        }
        return switch (what) {
            case 0 -> allCycles().size();
            case 1 -> bits(on);
            case 2 -> bits(hang);
            default -> bits(broken);
        };
    }

    boolean ordered() {
        if (allCycles().size() != 1) {
            return false;
        }
        int sum = 0;
        for (int node : allCycles().iterator().next()) {
            sum += way(place(node), place(first(node)));
        }
        return sum == ring.circle;
    }

    private List<Integer> othersOf(int node) {
        List<Integer> others = new ArrayList<>(now.lists.keySet());
        others.remove(Integer.valueOf(node));
        return others;
    }

    int amiss() {
        Set<Integer> all = new TreeSet<>();
        for (int node : now.lists.keySet()) {
            int due = othersOf(node).stream().min(Comparator.comparing(o -> way(place(node), place(o)))).orElse(node);
            if (first(node) != due) {
                all.add(node);
            }
        }
        return bits(all);
    }

    private int previous(int node) {
        return othersOf(node).stream().min(Comparator.comparing(o -> way(place(o), place(node)))).orElse(-1);
    }

    int behind() {
        Set<Integer> all = new TreeSet<>();
        for (int node : now.lists.keySet()) {
            if (now.lists.size() >= 2 && now.ahead.getOrDefault(node, -1) != previous(node)) {
                all.add(node);
            }
        }
        return bits(all);
    }

    private void round() {
        for (int node : new ArrayList<>(now.lists.keySet())) {
            doFlush(node);
            doTidy(node);
        }
    }

    int rests() {
        Now start = now;
        now = start.copy();
        int answer = -1;
        for (int r = 0; r <= 30 && answer == -1; r++) {
            Now before = now.copy();
            round();
            if (now.same(before)) {
                answer = r;
            }
        }
        now = start;
        return answer;
    }

    int after(int rounds, int what) {
        if (rounds < 0 || rounds > 30 || what < 0 || what > 3) {
            return -1;
        }
        Now start = now;
        now = start.copy();
        for (int r = 0; r < rounds; r++) {
            round();
        }
        int answer = switch (what) {
            case 0 -> ordered() ? 1 : 0;
            case 1 -> amiss();
            case 2 -> behind();
            default -> astray();
        };
        now = start;
        return answer;
    }

    int wrongs(int node) {
        if (!in(node)) {
            return -1;
        }
        Set<Integer> all = new TreeSet<>();
        for (int i = 0; i < 8 && 1 << i < ring.circle; i++) {
            int due = owner((place(node) + (1 << i)) % ring.circle, now.lists.keySet());
            if (finger(node, i) != due) {
                all.add(i);
            }
        }
        return bits(all);
    }

    int far(int node) {
        return in(node) ? keysWhere(k -> true).stream().mapToInt(k -> Math.max(0, steps(node, ring.lie(k)))).max().orElse(0) : -1;
    }

    int toil(int node) {
        return in(node) ? keysWhere(k -> true).stream().mapToInt(k -> Math.max(0, steps(node, ring.lie(k)))).sum() : -1;
    }

    int arc(int node) {
        return !in(node) ? -1 : previous(node) == -1 ? ring.circle : way(place(previous(node)), place(node));
    }

    int load(int node) {
        return in(node) ? bits(keysWhere(k -> key(k, 2) == node)) : -1;
    }

    int hosts(int node) {
        if (!isNode(node)) {
            return -1;
        }
        Set<Integer> all = new TreeSet<>();
        now.lists.forEach((n, l) -> {
            if (l.contains(node)) {
                all.add(n);
            }
        });
        return bits(all);
    }

    int reaches(int node) {
        if (!in(node)) {
            return -1;
        }
        TreeSet<Integer> all = new TreeSet<>(List.of(node));
        int size = 0;
        while (size != all.size()) {
            size = all.size();
            for (int n : new ArrayList<>(all)) {
                Set<Integer> known = new TreeSet<>(now.lists.get(n));
                known.addAll(now.fingers.get(n).values());
                if (now.ahead.containsKey(n)) {
                    known.add(now.ahead.get(n));
                }
                known.removeIf(o -> !in(o));
                all.addAll(known);
            }
        }
        return bits(all);
    }

    int heirs(int key, int i) {
        return !isKey(key) || i < 0 || i >= now.lists.size() ? -1 : heirsOf(ring.lie(key), now.lists.keySet()).get(i);
    }

    int widest() {
        return now.lists.keySet().stream().max(Comparator.<Integer, Integer>comparing(this::arc)
                .thenComparing(Comparator.reverseOrder())).orElse(-1);
    }

    int risk(int many) {
        if (many < 1 || many > 3) {
            return -1;
        }
        return sets(new ArrayList<>(now.lists.keySet()), 0, many, new ArrayList<>());
    }

    private int sets(List<Integer> all, int from, int many, List<Integer> chosen) {
        if (many == 0) {
            Now before = now;
            now = before.copy();
            chosen.forEach(this::doFail);
            boolean alone = now.lists.keySet().stream().anyMatch(n -> first(n) == -1);
            now = before;
            return alone ? 1 : 0;
        }
        int count = 0;
        for (int i = from; i < all.size(); i++) {
            List<Integer> more = new ArrayList<>(chosen);
            more.add(all.get(i));
            count += sets(all, i + 1, many - 1, more);
        }
        return count;
    }

    int moves(int node) {
        if (!isNode(node)) {
            return -1;
        }
        Set<Integer> other = new TreeSet<>(now.lists.keySet());
        if (!other.remove(node)) {
            other.add(node);
        }
        return keysWhere(k -> key(k, 2) != owner(ring.lie(k), other)).size();
    }

    boolean see(int place, int steps, boolean more) {
        if (place < 0 || place >= ring.circle || steps < 0 || steps > 20 || seen.size() == 8) {
            return false;
        }
        return seen.add(new Sight(place, steps, more));
    }

    private List<Integer> suspects() {
        List<Integer> all = new ArrayList<>(now.lists.keySet());
        all.removeIf(n -> !seen.stream().allMatch(s -> steps(n, s.place) != -1
                && (s.more ? steps(n, s.place) >= s.steps : steps(n, s.place) < s.steps)));
        return all;
    }

    int who() {
        return bits(suspects());
    }

    int ask() {
        List<Integer> who = suspects();
        int best = -1;
        int least = who.size();
        for (int p = 0; p < ring.circle; p++) {
            Map<Integer, Integer> groups = new HashMap<>();
            for (int n : who) {
                groups.merge(steps(n, p), 1, Integer::sum);
            }
            int most = groups.values().stream().max(Comparator.naturalOrder()).orElse(0);
            if (most < least) {
                least = most;
                best = p;
            }
        }
        return best;
    }

    private java.math.BigInteger g;

    private int draw(int m) {
        g = g.multiply(java.math.BigInteger.valueOf(1103515245)).add(java.math.BigInteger.valueOf(12345))
                .mod(java.math.BigInteger.valueOf(2147483648L));
        return g.divide(java.math.BigInteger.valueOf(65536)).mod(java.math.BigInteger.valueOf(m)).intValue();
    }

    int drives(int seed, int many, int what) {
        if (seed < 0 || seed > 9999 || many < 1 || many > 99 || what < 0 || what > 2) {
            return -1;
        }
        Now start = now;
        now = start.copy();
        g = java.math.BigInteger.valueOf(seed);
        int could = 0;
        for (int i = 0; i < many && ring.circle != 0 && !ring.names.isEmpty(); i++) {
            int deed = draw(8);
            int a = draw(ring.names.size());
            int b = draw(ring.names.size());
            boolean done = switch (deed) {
                case 0 -> doStart(a);
                case 1 -> doJoin(a, b) != -1;
                case 2 -> doLeave(a);
                case 3 -> doFail(a) != -1;
                case 4, 5 -> doTidy(a) != -1;
                case 6 -> doFlush(a) != -1;
                default -> doFix(a, draw(8));
            };
            could += done ? 1 : 0;
        }
        int[] answers = {could, now.lists.size(), amiss()};
        now = start;
        return answers[what];
    }

    boolean mark(int mark, boolean back) {
        if (mark < 0 || mark > 3 || back && !marks.containsKey(mark)) {
            return false;
        }
        if (back) {
            now = marks.get(mark).now.copy();
            seen = new ArrayList<>(marks.get(mark).seen);
            undo.clear();
        } else {
            marks.put(mark, new Mark(now.copy(), new ArrayList<>(seen)));
        }
        return true;
    }

    int count(int what) {
        int[] all = {ring.circle, ring.list, ring.names.size(), ring.keyNames.size(), bits(now.lists.keySet()),
            now.holders.size(), work.size(), seen.size(), undo.size(), tape.length()};
        return what < 0 || what >= all.length ? -1 : all[what];
    }

    @Override
    public String toString() {
        return Arrays.toString(new Object[] {ring.circle, ring.list, ring.kinds, ring.places, now.lists, now.ahead, now.fingers, now.holders});
    }
}
