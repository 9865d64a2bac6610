/** Compares answers with what is due, and tells rings and works. */
final class Check {
    private int wrong;

    void due(String what, long got, long want) {
        if (got != want) {
            wrong++;
            System.out.println(what + " answered " + got + ", due is " + want);
        }
    }

    void due(String what, boolean got, boolean want) {
        due(what, got ? 1 : 0, want ? 1 : 0);
    }

    void dueNoSuchElement(String what, NameRing ring, int node, int place, int i) {
        boolean thrown = false;
        try {
            ring.route(node, place, i);
        } catch (java.util.NoSuchElementException e) {
            thrown = true;
        }
        due(what + " throws", thrown, true);
    }

    /** Feeds a text, 24 signs a call; the last call is filled with signs that are left out. */
    static int feed(NameRing ring, String text) {
        int length = ring.count(9);
        for (int i = 0; i < text.length(); i += 24) {
            long[] parts = new long[3];
            for (int j = 0; j < 24; j++) {
                parts[j / 8] = parts[j / 8] << 8 | (i + j < text.length() ? text.charAt(i + j) : 0);
            }
            length = ring.feed(parts[0], parts[1], parts[2]);
        }
        return length;
    }

    static int tellRing(NameRing ring, String text) {
        feed(ring, text);
        return ring.ring();
    }

    static int tellWork(NameRing ring, String text) {
        feed(ring, text);
        return ring.work();
    }

    /** An object with that RING. */
    NameRing ringOf(String text) {
        NameRing ring = new NameRing();
        due("the fault of " + text, tellRing(ring, text), 0);
        return ring;
    }

    void finish(String name) {
        System.out.println(wrong == 0 ? name + ": all answers are as due" : name + ": " + wrong + " answers are not as due");
        if (wrong != 0) {
            System.exit(1);
        }
    }
}
