import java.lang.reflect.InvocationTargetException;
import java.lang.reflect.Method;
import java.util.Arrays;
import java.util.Comparator;

/** Compares answers with what is due, and tells rings and works. */
final class Check {
    private static final String PREFIX = "promise";

    private String test = "";
    private int asked;
    private int wrong;

    void due(String what, long got, long want) {
        asked++;
        if (got != want) {
            wrong++;
            System.out.println(test + what + " answered " + got + ", due is " + want);
        }
    }

    void due(String what, boolean got, boolean want) {
        due(what, got ? 1 : 0, want ? 1 : 0);
    }

    void dueNoSuchElement(String what, NameRing ring, int node, int place, int i) {
        boolean thrown = false;
        try {
            ring.route(node, place, i);
        } catch (java.util.NoSuchElementException e) {
            thrown = true;
        }
        due(what + " throws", thrown, true);
    }

    /** The FAULT of a RING is of that kind, at the token that ^ marks in the text (0: there is none). */
    void dueRingFault(int kind, String marked) {
        NameRing ring = new NameRing();
        due("ring of " + marked, tellRing(ring, unmarked(marked)), faultOf(kind, marked));
        due("signs behind " + marked, ring.count(9), 0);
    }

    /** The FAULT of a WORK, likewise; the WORK that there was stays, if there is a FAULT. */
    void dueWorkFault(NameRing ring, int kind, String marked) {
        int lines = ring.count(6);
        due("work of " + marked, tellWork(ring, unmarked(marked)), faultOf(kind, marked));
        due("signs behind " + marked, ring.count(9), 0);
        if (kind != 0) {
            due("lines behind " + marked, ring.count(6), lines);
        }
    }

    private static String unmarked(String marked) {
        return marked.replace("^", "");
    }

    private static int faultOf(int kind, String marked) {
        return kind == 0 ? 0 : kind + 16 * marked.indexOf('^');
    }

    /** The LIST of a NODE is just that. */
    void dueList(NameRing ring, int node, int... due) {
        for (int i = 0; i < 5; i++) {
            due("listed " + node + " " + i, ring.listed(node, i), i < due.length ? due[i] : -1);
        }
    }

    /** The KEYS from 0 on are held by these. */
    void dueHolders(NameRing ring, int... due) {
        for (int key = 0; key < due.length; key++) {
            due("holder of " + key, ring.key(key, 1), due[key]);
        }
    }

    /** Who is FOUND, and over whom. */
    void duePath(NameRing ring, int node, int place, int found, int... route) {
        String call = node + " " + place;
        due("find " + call, ring.find(node, place), found);
        due("steps " + call, ring.steps(node, place), route.length);
        for (int i = 0; i < route.length; i++) {
            due("route " + call + " " + i, ring.route(node, place, i), route[i]);
        }
        dueNoSuchElement("route " + call, ring, node, place, route.length);
        dueNoSuchElement("route " + call, ring, node, place, -1);
    }

    void dueNoPath(NameRing ring, int node, int place) {
        due("find " + node + " " + place, ring.find(node, place), -1);
        due("steps " + node + " " + place, ring.steps(node, place), -1);
        dueNoSuchElement("route " + node + " " + place, ring, node, place, 0);
    }

    /** Feeds a text, 24 signs a call; the last call is filled with signs that are left out. */
    static int feed(NameRing ring, String text) {
        int length = ring.count(9);
        for (int i = 0; i < text.length(); i += 24) {
            long[] parts = new long[3];
            for (int j = 0; j < 24; j++) {
                parts[j / 8] = parts[j / 8] << 8 | (i + j < text.length() ? text.charAt(i + j) : 0);
            }
            length = ring.feed(parts[0], parts[1], parts[2]);
        }
        return length;
    }

    static int tellRing(NameRing ring, String text) {
        feed(ring, text);
        return ring.ring();
    }

    static int tellWork(NameRing ring, String text) {
        feed(ring, text);
        return ring.work();
    }

    /** An object with that RING. */
    NameRing ringOf(String text) {
        NameRing ring = new NameRing();
        due("the fault of " + text, tellRing(ring, text), 0);
        return ring;
    }

    /** An object with that RING, of which the first so many NODES are IN and all rest. */
    NameRing settledRing(String text, int many) {
        NameRing ring = ringOf(text);
        ring.start(0);
        for (int node = 1; node < many; node++) {
            ring.join(node, 0);
        }
        for (int i = 0; i < many + 3; i++) {
            for (int node = 0; node < many; node++) {
                ring.tidy(node);
            }
        }
        due("those IN of " + text, ring.count(4), (1 << many) - 1);
        due("rests of " + text, ring.rests(), 0);
        due("amiss of " + text, ring.amiss(), 0);
        due("behind of " + text, ring.behind(), 0);
        return ring;
    }

    /** All that can be undone, or marked, as a text; of some NODES and KEYS. */
    static String stateOf(NameRing ring, int nodes, int keys) {
        StringBuilder text = new StringBuilder();
        for (int node = 0; node < nodes; node++) {
            for (int what = 2; what < 6; what++) {
                text.append(ring.node(node, what)).append(' ');
            }
            for (int i = 0; i < 4; i++) {
                text.append(ring.listed(node, i)).append(' ');
            }
            for (int i = 0; i < 8; i++) {
                text.append(ring.finger(node, i)).append(' ');
            }
        }
        for (int key = 0; key < keys; key++) {
            text.append(ring.key(key, 1)).append(' ');
        }
        return text.append(ring.count(4)).append(' ').append(ring.count(5)).toString();
    }

    void dueText(String what, String got, String want) {
        due(what + ", which is " + got + " for " + want, got.equals(want), true);
    }

    /**
     * Does deeds in short: b0 BEGIN, j10 JOIN of 1 by 0, l0 LEAVE, x0 FAIL, t0 TIDY, f0 FLUSH, i03 FIX of 0's FINGER 3,
     * m0 MEND, p10 PUT of KEY 1 by 0, h0 HAND; each of them must be one that can be.
     */
    void dueDeeds(NameRing ring, String deeds) {
        for (String deed : deeds.trim().split(" +")) {
            int first = deed.charAt(1) - '0';
            int second = deed.length() > 2 ? deed.charAt(2) - '0' : 0;
            due(deed + " of " + deeds, could(ring, deed.charAt(0), first, second), true);
        }
    }

    private static boolean could(NameRing ring, char deed, int first, int second) {
        switch (deed) {
            case 'b':
                return ring.start(first);
            case 'j':
                return ring.join(first, second) != NameRing.NONE;
            case 'l':
                return ring.leave(first);
            case 'x':
                return ring.fail(first) != NameRing.NONE;
            case 't':
                return ring.tidy(first) != NameRing.NONE;
            case 'f':
                return ring.flush(first) != NameRing.NONE;
            case 'i':
                return ring.fix(first, second);
            case 'm':
                return ring.mend(first) != NameRing.NONE;
            case 'p':
                return ring.put(first, second) != NameRing.NONE;
            case 'h':
                return ring.hand(first) != NameRing.NONE;
            default:
                throw new IllegalArgumentException("no deed: " + deed);
        }
    }

    /** Runs all methods of a class whose names begin with promise and its number; each must ask something. */
    void runPromises(Class<?> tests) throws IllegalAccessException {
        Method[] methods = tests.getDeclaredMethods();
        Arrays.sort(methods, Comparator.comparing(Method::getName));
        for (Method method : methods) {
            if (promiseOf(method) > 0) {
                test = method.getName() + ": ";
                int before = asked;
                try {
                    method.invoke(null);
                } catch (InvocationTargetException e) {
                    due("thrown " + e.getCause(), 1, 0);
                }
                due("asked nothing", asked == before, false);
            }
        }
        test = "";
    }

    /** The number of the promise by which a test is named; 0: it is no such test. */
    static int promiseOf(Method method) {
        String name = method.getName();
        boolean named = name.startsWith(PREFIX) && name.length() > PREFIX.length() + 2;
        return named ? Integer.parseInt(name.substring(PREFIX.length(), PREFIX.length() + 2)) : 0;
    }

    void finish(String name) {
        System.out.println(wrong == 0 ? name + ": all answers are as due" : name + ": " + wrong + " answers are not as due");
        if (wrong != 0) {
            System.exit(1);
        }
    }
}
