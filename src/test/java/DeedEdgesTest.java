/** The edges that the document names for promises 5 to 19 and 47: what NODES have and do, UNDO and MARKS; a test each. */
public final class DeedEdgesTest {
    private static final Check CHECK = new Check();
    private static final int LEAST = Integer.MIN_VALUE;
    private static final int MOST = Integer.MAX_VALUE;
    private static final String FOUR = "circle 16;node a plain at 0;node b plain at 4;node c plain at 8;node d plain at 12;";
    /** Between a and b there is room for e. */
    private static final String FIVE = FOUR + "node e plain at 2;";
    /** Numbers that are of no NODE, when there are four. */
    private static final int[] NO_NODES = {LEAST, -33, -2, -1, 4, 7, 8, 9, 31, 32, 33, 64, MOST};
    /** Numbers that are of no KEY, when there is one. */
    private static final int[] NO_KEYS = {LEAST, -33, -2, -1, 1, 9, 10, 11, 31, 32, 33, MOST};

    public static void main(String[] args) throws IllegalAccessException {
        CHECK.runPromises(DeedEdgesTest.class);
        CHECK.finish("DeedEdgesTest");
    }

    private static String tenKeys() {
        StringBuilder text = new StringBuilder();
        for (int i = 0; i < 10; i++) {
            text.append("key k").append((char) ('a' + i)).append(" at ").append(i).append(';');
        }
        return text.toString();
    }

    private static void dueFingers(NameRing ring, int node, int... due) {
        for (int i = 0; i < 8; i++) {
            CHECK.due("finger " + node + " " + i, ring.finger(node, i), i < due.length ? due[i] : -1);
        }
    }

    private static void dueNothing(NameRing ring, int node) {
        CHECK.due("not IN " + node, ring.node(node, 2), 0);
        CHECK.due("ahead of " + node, ring.node(node, 3), -1);
        CHECK.due("first of " + node, ring.node(node, 4), -1);
        CHECK.due("held by " + node, ring.node(node, 5), 0);
        CHECK.dueList(ring, node);
        dueFingers(ring, node);
    }

    /** Nothing can be undone then, and all else is as it was. */
    private static void forgetPast(NameRing ring) {
        CHECK.due("lay", ring.mark(3, false), true);
        CHECK.due("back", ring.mark(3, true), true);
        CHECK.due("nothing can be undone", ring.count(8), 0);
    }

    /** a, b and c, of which a's LIST is b and c's a, have each FINGERS, one AHEAD and KEYS. */
    private static NameRing richRing() {
        NameRing ring = CHECK.settledRing("list 2;" + FOUR + "key k at 3;key l at 8;key m at 14;", 3);
        CHECK.dueDeeds(ring, "m0 m1 m2 p00 p10 p20");
        CHECK.dueHolders(ring, 1, 2, 0);
        return ring;
    }

    // ---- promise 5

    static void promise05TellsTheKind() {
        NameRing ring = CHECK.ringOf("circle 16;node a blind at 1;node b shy at 2;node c short at 3;node d plain at 4;");
        for (int node = 0; node < 4; node++) {
            CHECK.due("kind " + node, ring.node(node, 0), 3 - node);
        }
    }

    static void promise05TellsThePlace() {
        NameRing ring = CHECK.ringOf("circle 256;node a plain at 255;node b plain at 0;node c plain at 128;");
        CHECK.due("the last", ring.node(0, 1), 255);
        CHECK.due("the first", ring.node(1, 1), 0);
        CHECK.due("another", ring.node(2, 1), 128);
    }

    static void promise05AnswersMinus2ForNoNode() {
        NameRing ring = CHECK.ringOf(FOUR);
        for (int node : NO_NODES) {
            for (int what = 0; what < 6; what++) {
                CHECK.due("node " + node + " " + what, ring.node(node, what), -2);
            }
        }
        CHECK.due("the last one", ring.node(3, 1), 12);
    }

    static void promise05AnswersMinus2ForAnotherWhat() {
        NameRing ring = CHECK.ringOf(FOUR);
        CHECK.dueDeeds(ring, "b0");
        for (int what : new int[] {LEAST, -2, -1, 6, 7, 32, MOST}) {
            CHECK.due("of one IN " + what, ring.node(0, what), -2);
            CHECK.due("of one OUT " + what, ring.node(1, what), -2);
        }
    }

    static void promise05AnswersMinus2WithoutNodes() {
        for (int what = 0; what < 6; what++) {
            CHECK.due("a new object", new NameRing().node(0, what), -2);
            CHECK.due("a circle alone", CHECK.ringOf("circle 8;").node(0, what), -2);
        }
    }

    static void promise05OneThatIsOutHasNothing() {
        NameRing ring = richRing();
        dueNothing(ring, 3);
        CHECK.dueDeeds(ring, "l0 x1 x2");
        for (int node = 0; node < 4; node++) {
            dueNothing(ring, node);
        }
    }

    static void promise05OneThatIsInIs1() {
        NameRing ring = CHECK.ringOf(FOUR);
        CHECK.due("OUT", ring.node(3, 2), 0);
        CHECK.dueDeeds(ring, "b3");
        CHECK.due("IN", ring.node(3, 2), 1);
        CHECK.due("the others are OUT", ring.node(0, 2), 0);
    }

    static void promise05TheFirstIsTheFirstOfItsListThatIsIn() {
        NameRing ring = CHECK.settledRing("list 3;" + FOUR, 4);
        CHECK.due("b", ring.node(0, 4), 1);
        CHECK.dueDeeds(ring, "x1");
        CHECK.due("c", ring.node(0, 4), 2);
        CHECK.dueDeeds(ring, "x2");
        CHECK.due("d", ring.node(0, 4), 3);
        CHECK.dueDeeds(ring, "x3");
        CHECK.due("none", ring.node(0, 4), -1);
        CHECK.dueList(ring, 0, 1, 2, 3);
        CHECK.due("undo", ring.undo(), true);
        CHECK.due("d again", ring.node(0, 4), 3);
    }

    static void promise05OneAloneIsItsFirstAndHasNoneAhead() {
        NameRing ring = CHECK.ringOf(FOUR);
        CHECK.dueDeeds(ring, "b2 t2 f2");
        CHECK.due("first", ring.node(2, 4), 2);
        CHECK.due("ahead", ring.node(2, 3), -1);
    }

    static void promise05TheOneAheadStaysTillAFlushIfItIsOut() {
        NameRing ring = CHECK.settledRing(FOUR, 4);
        CHECK.due("d", ring.node(0, 3), 3);
        CHECK.dueDeeds(ring, "x3");
        CHECK.due("d still", ring.node(0, 3), 3);
        CHECK.dueDeeds(ring, "f0");
        CHECK.due("none", ring.node(0, 3), -1);
    }

    static void promise05TellsTenKeysAsBits() {
        NameRing ring = CHECK.ringOf(FOUR + tenKeys());
        CHECK.dueDeeds(ring, "b0 p90");
        CHECK.due("the tenth", ring.node(0, 5), 512);
        CHECK.dueDeeds(ring, "p00 p10 p20 p30 p40 p50 p60 p70 p80");
        CHECK.due("all", ring.node(0, 5), 1023);
    }

    // ---- promise 6

    static void promise06AListIsAsLongAsList() {
        for (int list = 1; list <= 4; list++) {
            NameRing ring = CHECK.settledRing("list " + list + ";circle 64;node a plain at 0;node b plain at 10;node c plain at 20;"
                    + "node d plain at 30;node e plain at 40;node f plain at 50;", 6);
            for (int i = 0; i < 6; i++) {
                CHECK.due("listed a " + i + " of " + list, ring.listed(0, i), i < list ? i + 1 : -1);
                CHECK.due("listed f " + i + " of " + list, ring.listed(5, i), i < list ? i : -1);
            }
        }
    }

    static void promise06OfAShortOneItIs1() {
        NameRing ring = CHECK.settledRing("list 4;circle 16;node a short at 0;node b plain at 4;node c short at 8;node d plain at 12;", 4);
        CHECK.dueList(ring, 0, 1);
        CHECK.dueList(ring, 2, 3);
        // the short ones pass no more on
        CHECK.dueList(ring, 1, 2, 3);
        CHECK.dueList(ring, 3, 0, 1);
    }

    static void promise06OfFewItIsShorter() {
        NameRing ring = CHECK.settledRing("list 4;" + FOUR, 4);
        CHECK.dueList(ring, 0, 1, 2, 3);
        CHECK.dueList(ring, 3, 0, 1, 2);
        NameRing two = CHECK.settledRing("list 4;" + FOUR, 2);
        CHECK.dueList(two, 0, 1);
        CHECK.dueList(two, 1, 0);
    }

    static void promise06WhoIsOutStaysTillAFlush() {
        NameRing ring = CHECK.settledRing("list 3;" + FOUR, 4);
        CHECK.dueDeeds(ring, "x1");
        CHECK.dueList(ring, 0, 1, 2, 3);
        CHECK.dueDeeds(ring, "f0");
        CHECK.dueList(ring, 0, 2, 3);
    }

    static void promise06AnswersNoneForOthers() {
        NameRing ring = CHECK.settledRing("list 4;" + FOUR, 3);
        for (int node : NO_NODES) {
            CHECK.due("no node " + node, ring.listed(node, 0), -1);
        }
        for (int i : new int[] {LEAST, -2, -1, 2, 3, 4, 5, 32, MOST}) {
            CHECK.due("no i " + i, ring.listed(0, i), -1);
        }
        CHECK.due("the last one", ring.listed(0, 1), 2);
        CHECK.due("OUT", ring.listed(3, 0), -1);
        CHECK.due("a new object", new NameRing().listed(0, 0), -1);
    }

    // ---- promise 7

    static void promise07Tells8Fingers() {
        NameRing ring = CHECK.settledRing("circle 256;node a plain at 0;node b plain at 1;node c plain at 2;node d plain at 4;"
                + "node e plain at 8;node f plain at 16;node g plain at 32;node h plain at 128;key k at 1;", 8);
        CHECK.due("mend", ring.mend(0), 8);
        dueFingers(ring, 0, 1, 2, 3, 4, 5, 6, 7, 7);
        // not those of the next one, nor who holds a KEY
        CHECK.due("mend", ring.mend(1), 8);
        CHECK.due("no finger 8", ring.finger(0, 8), -1);
        CHECK.due("no finger -1", ring.finger(1, -1), -1);
        CHECK.due("put", ring.put(0, 0), 1);
        for (int i = 0; i < 8; i++) {
            CHECK.due("no ninth node " + i, ring.finger(8, i), -1);
        }
    }

    static void promise07AnswersNoneForOthers() {
        NameRing ring = CHECK.ringOf("circle 256;node a plain at 0;node b plain at 4;node c plain at 8;node d plain at 12;");
        CHECK.dueDeeds(ring, "b0 m0");
        dueFingers(ring, 0, 0, 0, 0, 0, 0, 0, 0, 0);
        for (int node : NO_NODES) {
            CHECK.due("no node " + node, ring.finger(node, 0), -1);
        }
        for (int i : new int[] {LEAST, -8, -2, -1, 8, 9, 16, 32, MOST}) {
            CHECK.due("no finger " + i, ring.finger(0, i), -1);
        }
        dueFingers(ring, 1);
        CHECK.due("a new object", new NameRing().finger(0, 0), -1);
    }

    static void promise07ThereAreNoneAtFirst() {
        NameRing ring = CHECK.ringOf(FOUR);
        CHECK.dueDeeds(ring, "b0 j10 t1 t0");
        dueFingers(ring, 0);
        dueFingers(ring, 1);
    }

    static void promise07ThoseAsFarAsTheCircleAreNone() {
        NameRing ring = CHECK.ringOf("circle 8;node a plain at 3;");
        CHECK.dueDeeds(ring, "b0 m0");
        dueFingers(ring, 0, 0, 0, 0);
    }

    static void promise07WhoIsOutStaysTillAFlush() {
        NameRing ring = CHECK.settledRing(FOUR, 4);
        CHECK.dueDeeds(ring, "m0 x2");
        dueFingers(ring, 0, 1, 1, 1, 2);
        CHECK.dueDeeds(ring, "f0");
        dueFingers(ring, 0, 1, 1, 1);
    }

    static void promise07WhoComesAgainHasNone() {
        NameRing ring = CHECK.settledRing(FOUR, 4);
        CHECK.dueDeeds(ring, "m0 x0 j01");
        dueFingers(ring, 0);
        NameRing alone = CHECK.ringOf(FOUR);
        CHECK.dueDeeds(alone, "b0 m0 x0 b0");
        dueFingers(alone, 0);
    }

    // ---- promise 8

    private static int lie(String text) {
        return CHECK.ringOf(text + "key k at 7;").key(0, 0);
    }

    static void promise08LiesModuloTheCircle() {
        NameRing ring = CHECK.ringOf("circle 8;key a at 0;key b at 7;key c at 8;key d at 9;key e at 999;");
        int[] due = {0, 7, 0, 1, 7};
        for (int key = 0; key < 5; key++) {
            CHECK.due("key " + key, ring.key(key, 0), due[key]);
        }
        CHECK.due("999 of 256", CHECK.ringOf("circle 256;key k at 999;").key(0, 0), 231);
        CHECK.due("9999 of 256", lie("circle 256;lies 9999;"), 15);
    }

    static void promise08LiesAt0ToLessThanTheCircleIfTheLawIsBelow0() {
        CHECK.due("-1", lie("circle 10;lies 0 - 1;"), 9);
        CHECK.due("-10", lie("circle 10;lies 0 - 10;"), 0);
        CHECK.due("-11", lie("circle 10;lies 0 - 11;"), 9);
        CHECK.due("-9999", lie("circle 256;lies 0 - 9999;"), 241);
    }

    static void promise08LiesAt0WithoutACircle() {
        CHECK.due("told", lie(""), 0);
        CHECK.due("a law", lie("lies 5;"), 0);
        CHECK.due("the circle is 0", lie("lies circle + 5;"), 0);
    }

    static void promise08LiesAsToldWithoutALaw() {
        CHECK.due("told", lie("circle 10;"), 7);
        // not by the law of the RING ahead
        NameRing ring = CHECK.ringOf("circle 10;lies 3;key k at 7;");
        CHECK.due("by a law", ring.key(0, 0), 3);
        CHECK.due("anew", Check.tellRing(ring, "circle 10;key k at 7;"), 0);
        CHECK.due("told", ring.key(0, 0), 7);
    }

    static void promise08KnowsFourFacts() {
        NameRing ring = CHECK.ringOf("circle 100;key a at 50;key b at 60;key c at 7;lies told;");
        CHECK.due("told 0", ring.key(0, 0), 50);
        CHECK.due("told 2", ring.key(2, 0), 7);
        ring = CHECK.ringOf("circle 100;lies which;" + tenKeys());
        for (int key = 0; key < 10; key++) {
            CHECK.due("which " + key, ring.key(key, 0), key);
        }
        CHECK.due("circle", lie("circle 100;lies circle - 1;"), 99);
        CHECK.due("no nodes", lie("circle 100;lies nodes + 20;"), 20);
        CHECK.due("four nodes", lie(FOUR + "lies nodes;"), 4);
    }

    static void promise08TheLawKnowsTheWholeRing() {
        CHECK.due("ahead of all", lie("lies circle * 2 + nodes + which + told - 25;" + FOUR), 2);
    }

    static void promise08NodesAreThoseThatThereAreNotThoseIn() {
        NameRing ring = CHECK.ringOf(FOUR + "lies nodes;key k at 7;");
        CHECK.dueDeeds(ring, "b0 j10");
        CHECK.due("lies", ring.key(0, 0), 4);
    }

    static void promise08OfNotAndOrLessAndLikeComes1Or0() {
        String[] laws = {"not 0", "not 7", "not not 7", "3 and 5", "3 and 0", "0 and 3", "3 or 5", "0 or 5", "5 or 0", "0 or 0",
            "2 < 3", "3 < 3", "4 < 3", "2 = 3", "3 = 3", "4 = 3"};
        int[] due = {1, 0, 1, 1, 0, 0, 1, 1, 1, 0, 1, 0, 0, 0, 1, 0};
        for (int i = 0; i < laws.length; i++) {
            CHECK.due(laws[i], lie("circle 10;lies " + laws[i] + ";"), due[i]);
        }
    }

    static void promise08WhatIsNot0IsSo() {
        CHECK.due("not -1", lie("circle 10;lies not (0 - 1);"), 0);
        CHECK.due("-1 and 1", lie("circle 10;lies 0 - 1 and 1;"), 1);
        CHECK.due("0 or -1", lie("circle 10;lies 0 or 0 - 1;"), 1);
    }

    static void promise08LessKnowsWhatIsBelow0() {
        CHECK.due("-1 < 0", lie("circle 10;lies 0 - 1 < 0;"), 1);
        CHECK.due("0 < -1", lie("circle 10;lies 0 < 0 - 1;"), 0);
    }

    static void promise08ReadsFromTheLeft() {
        CHECK.due("10 - 3 - 2", lie("circle 100;lies 10 - 3 - 2;"), 5);
        CHECK.due("10 - 3 + 2", lie("circle 100;lies 10 - 3 + 2;"), 9);
        CHECK.due("1 or 1 and 0", lie("circle 100;lies 1 or 1 and 0;"), 0);
        CHECK.due("0 and 0 or 1", lie("circle 100;lies 0 and 0 or 1;"), 1);
        CHECK.due("0 and 1 or 1 and 1", lie("circle 100;lies 0 and 1 or 1 and 1;"), 1);
    }

    static void promise08BindsProductsSumsTestsInTurn() {
        CHECK.due("2 + 3 * 4", lie("circle 100;lies 2 + 3 * 4;"), 14);
        CHECK.due("2 * 3 + 4", lie("circle 100;lies 2 * 3 + 4;"), 10);
        CHECK.due("(2 + 3) * 4", lie("circle 100;lies (2 + 3) * 4;"), 20);
        CHECK.due("5 < 2 + 4", lie("circle 100;lies 5 < 2 + 4;"), 1);
        CHECK.due("2 = 1 + 1 and 3", lie("circle 100;lies 2 = 1 + 1 and 3;"), 1);
        CHECK.due("not 0 + 5", lie("circle 100;lies not 0 + 5;"), 6);
        CHECK.due("not 0 * 5", lie("circle 100;lies not 0 * 5;"), 5);
        CHECK.due("not 2 = 0", lie("circle 100;lies not 2 = 0;"), 1);
    }

    static void promise08IntsWrap() {
        // 99980001 * 21 is 2099580021, * 22 is 2199560022, more than 2147483647
        CHECK.due("still more", lie("circle 10;lies 9999 * 9999 * 21 < 0;"), 0);
        CHECK.due("below 0", lie("circle 10;lies 9999 * 9999 * 22 < 0;"), 1);
        CHECK.due("the sum, too", lie("circle 10;lies 9999 * 9999 * 21 + 9999 * 9999 < 0;"), 1);
        CHECK.due("the difference, too", lie("circle 10;lies 0 - 9999 * 9999 * 21 - 9999 * 9999 < 0;"), 0);
        // 4096 * 4096 * 128 is the least int: itself below 0 (modulo 100: 52)
        CHECK.due("the least", lie("circle 100;lies 4096 * 4096 * 128;"), 52);
        CHECK.due("twice the least", lie("circle 100;lies 4096 * 4096 * 256 + 3;"), 3);
    }

    static void promise08TellsWhoHoldsIt() {
        NameRing ring = CHECK.ringOf(FOUR + "key k at 3;");
        CHECK.due("nobody", ring.key(0, 1), -1);
        CHECK.dueDeeds(ring, "b3 p03");
        CHECK.due("d", ring.key(0, 1), 3);
        CHECK.dueDeeds(ring, "x3");
        CHECK.due("nobody again", ring.key(0, 1), -1);
    }

    static void promise08TheOwnerIsTheOneAtWhichItLies() {
        NameRing ring = CHECK.settledRing(FOUR + "key k at 0;key l at 4;key m at 8;key n at 12;", 4);
        for (int key = 0; key < 4; key++) {
            CHECK.due("owner of " + key, ring.key(key, 2), key);
        }
    }

    static void promise08ElseTheOneToWhichTheWayIsTheLeast() {
        NameRing ring = CHECK.settledRing(FOUR + "key k at 13;key l at 15;key m at 1;key n at 11;", 4);
        int[] due = {0, 0, 1, 3};
        for (int key = 0; key < 4; key++) {
            CHECK.due("owner of " + key, ring.key(key, 2), due[key]);
        }
    }

    static void promise08NobodyIsTheOwnerIfNobodyIsIn() {
        NameRing ring = CHECK.ringOf(FOUR + "key k at 0;");
        CHECK.due("nobody", ring.key(0, 2), -1);
        CHECK.dueDeeds(ring, "b2");
        CHECK.due("the only one", ring.key(0, 2), 2);
        CHECK.dueDeeds(ring, "x2");
        CHECK.due("nobody again", ring.key(0, 2), -1);
        CHECK.due("without a circle", CHECK.ringOf("key k at 3;").key(0, 2), -1);
    }

    static void promise08AnswersMinus2ForOthers() {
        NameRing ring = CHECK.ringOf(FOUR + "key k at 0;");
        for (int key : NO_KEYS) {
            for (int what = 0; what < 3; what++) {
                CHECK.due("key " + key + " " + what, ring.key(key, what), -2);
            }
        }
        for (int what : new int[] {LEAST, -2, -1, 3, 4, 32, MOST}) {
            CHECK.due("what " + what, ring.key(0, what), -2);
        }
        CHECK.due("a new object", new NameRing().key(0, 1), -2);
    }

    // ---- promise 9

    static void promise09OneBeginsIfNobodyIsIn() {
        for (int node = 0; node < 4; node++) {
            NameRing ring = CHECK.ringOf("circle 16;node a plain at 0;node b short at 4;node c shy at 8;node d blind at 12;");
            CHECK.due("start " + node, ring.start(node), true);
            CHECK.due("IN", ring.count(4), 1 << node);
            CHECK.dueList(ring, node, node);
            CHECK.due("none ahead", ring.node(node, 3), -1);
            dueFingers(ring, node);
        }
    }

    static void promise09CantBeIfSomebodyIsIn() {
        NameRing ring = CHECK.ringOf(FOUR);
        CHECK.dueDeeds(ring, "b1");
        for (int node = 0; node < 4; node++) {
            CHECK.due("start " + node, ring.start(node), false);
        }
        CHECK.due("IN", ring.count(4), 2);
        CHECK.due("undone can be one", ring.count(8), 1);
    }

    static void promise09CanBeAgainWhenTheLastHasFailed() {
        NameRing ring = richRing();
        CHECK.dueDeeds(ring, "x0 x1");
        CHECK.due("c is IN", ring.start(0), false);
        CHECK.dueDeeds(ring, "x2");
        CHECK.due("nobody is", ring.start(0), true);
        CHECK.dueList(ring, 0, 0);
        CHECK.due("none ahead", ring.node(0, 3), -1);
        dueFingers(ring, 0);
        CHECK.due("no keys", ring.node(0, 5), 0);
    }

    static void promise09IsFalseForOthers() {
        NameRing ring = CHECK.ringOf(FOUR);
        for (int node : NO_NODES) {
            CHECK.due("start " + node, ring.start(node), false);
        }
        CHECK.due("nobody is IN", ring.count(4), 0);
        CHECK.due("nothing can be undone", ring.count(8), 0);
        CHECK.due("a new object", new NameRing().start(0), false);
    }

    // ---- promise 10

    /** a, b and c at 0, 4 and 12 are IN and rest; d, at 8, is OUT. */
    private static NameRing gapRing(String kind, int list) {
        return CHECK.settledRing("list " + list + ";circle 16;node a plain at 0;node b plain at 4;node c plain at 12;node d "
                + kind + " at 8;", 3);
    }

    static void promise10ListsWhomItFindsThenThatOnesList() {
        NameRing ring = gapRing("plain", 4);
        CHECK.due("c is found", ring.join(3, 0), 2);
        CHECK.dueList(ring, 3, 2, 0, 1);
        CHECK.due("it is IN", ring.count(4), 15);
        CHECK.due("none ahead", ring.node(3, 3), -1);
        dueFingers(ring, 3);
        CHECK.due("none ahead of c but b", ring.node(2, 3), 1);
    }

    static void promise10ListsAsManyAsMayBe() {
        NameRing ring = gapRing("plain", 1);
        CHECK.dueDeeds(ring, "j30");
        CHECK.dueList(ring, 3, 2);
        ring = gapRing("plain", 2);
        CHECK.dueDeeds(ring, "j30");
        CHECK.dueList(ring, 3, 2, 0);
        ring = gapRing("short", 4);
        CHECK.dueDeeds(ring, "j30");
        CHECK.dueList(ring, 3, 2);
    }

    static void promise10ListsEachOnce() {
        NameRing ring = CHECK.ringOf("list 4;" + FOUR);
        CHECK.dueDeeds(ring, "b0 j10");
        CHECK.dueList(ring, 0, 0);
        CHECK.dueList(ring, 1, 0);
    }

    static void promise10DoesNotListItself() {
        NameRing ring = CHECK.settledRing("list 4;" + FOUR, 4);
        CHECK.dueDeeds(ring, "x2");
        CHECK.dueList(ring, 3, 0, 1, 2);
        CHECK.due("d is found", ring.join(2, 0), 3);
        CHECK.dueList(ring, 2, 3, 0, 1);
    }

    static void promise10ListsThoseThatAreOutToo() {
        NameRing ring = CHECK.settledRing("list 3;circle 16;node a plain at 0;node b plain at 3;node c plain at 6;node d plain at 9;"
                + "node e plain at 12;", 5);
        CHECK.dueDeeds(ring, "x4 x1");
        CHECK.due("a is found", ring.join(4, 0), 0);
        CHECK.dueList(ring, 4, 0, 1, 2);
    }

    static void promise10OneThatComesAgainHasNoneAheadAndNoFingers() {
        NameRing ring = richRing();
        CHECK.dueDeeds(ring, "x1 j10");
        CHECK.due("none ahead", ring.node(1, 3), -1);
        dueFingers(ring, 1);
        CHECK.due("no keys", ring.node(1, 5), 0);
    }

    static void promise10ComesRoundTheCircle() {
        NameRing ring = CHECK.settledRing("circle 16;node a plain at 15;node b plain at 1;node c plain at 0;", 2);
        CHECK.due("b is found", ring.join(2, 1), 1);
        CHECK.dueList(ring, 2, 1, 0);
    }

    static void promise10CantBeOfOneThatIsIn() {
        NameRing ring = CHECK.settledRing(FOUR, 2);
        int undone = ring.count(8);
        CHECK.due("b by a", ring.join(1, 0), -1);
        CHECK.due("b by itself", ring.join(1, 1), -1);
        CHECK.due("no more can be undone", ring.count(8), undone);
    }

    static void promise10CantBeByOneThatIsOut() {
        NameRing ring = CHECK.settledRing(FOUR, 2);
        CHECK.due("c by d", ring.join(2, 3), -1);
        CHECK.due("c by itself", ring.join(2, 2), -1);
        CHECK.due("nobody is IN", CHECK.ringOf(FOUR).join(0, 1), -1);
    }

    static void promise10CantBeIfNobodyIsFound() {
        NameRing ring = CHECK.settledRing("list 1;" + FOUR, 4);
        CHECK.dueDeeds(ring, "x2");
        // b has no FIRST, and all others come to it
        for (int by = 0; by < 4; by++) {
            CHECK.due("c by " + by, ring.join(2, by), -1);
        }
        CHECK.due("IN", ring.count(4), 11);
        dueNothing(ring, 2);
    }

    static void promise10IsNoneForOthers() {
        NameRing ring = CHECK.settledRing(FOUR, 2);
        for (int node : NO_NODES) {
            CHECK.due("node " + node, ring.join(node, 0), -1);
            CHECK.due("by " + node, ring.join(2, node), -1);
        }
        CHECK.due("IN", ring.count(4), 3);
        CHECK.due("a new object", new NameRing().join(0, 0), -1);
    }

    // ---- promise 11

    static void promise11ItsFirstHasTheKeysThen() {
        NameRing ring = CHECK.settledRing("list 2;" + FOUR + "key k at 14;key l at 15;key m at 9;key n at 1;", 4);
        CHECK.dueDeeds(ring, "p00 p10 p20");
        CHECK.dueHolders(ring, 0, 0, 3, -1);
        // the first of its LIST is OUT: c, the next one, is its FIRST
        CHECK.dueDeeds(ring, "x1");
        CHECK.due("leave", ring.leave(0), true);
        CHECK.dueHolders(ring, 2, 2, 3, -1);
    }

    static void promise11ItIsOutThen() {
        NameRing ring = richRing();
        CHECK.due("leave", ring.leave(0), true);
        CHECK.due("IN", ring.count(4), 6);
        dueNothing(ring, 0);
    }

    static void promise11TheOthersKnowItStill() {
        NameRing ring = richRing();
        CHECK.due("leave", ring.leave(0), true);
        CHECK.dueList(ring, 2, 0, 1);
        CHECK.due("ahead of b", ring.node(1, 3), 0);
        CHECK.due("finger of c", ring.finger(2, 2), 0);
    }

    static void promise11TheOthersKeepAllThatTheyHave() {
        NameRing ring = richRing();
        CHECK.dueDeeds(ring, "l0");
        dueOthersOfRich(ring);
    }

    /** a is OUT; b and c have all that they had. */
    private static void dueOthersOfRich(NameRing ring) {
        CHECK.dueList(ring, 1, 2, 0);
        CHECK.dueList(ring, 2, 0, 1);
        dueFingers(ring, 1, 2, 2, 2, 0);
        dueFingers(ring, 2, 0, 0, 0, 0);
        CHECK.due("ahead of b", ring.node(1, 3), 0);
        CHECK.due("ahead of c", ring.node(2, 3), 1);
        CHECK.due("b holds k", ring.key(0, 1), 1);
        CHECK.due("c holds l", ring.key(1, 1), 2);
    }

    static void promise11CantBeOfOneAlone() {
        NameRing ring = CHECK.ringOf(FOUR);
        CHECK.dueDeeds(ring, "b0");
        CHECK.due("alone", ring.leave(0), false);
        CHECK.dueDeeds(ring, "j10");
        CHECK.due("its FIRST is itself still", ring.leave(0), false);
        CHECK.due("IN", ring.count(4), 3);
        CHECK.due("b can", ring.leave(1), true);
    }

    static void promise11CantBeWithoutAFirst() {
        NameRing ring = CHECK.settledRing(FOUR, 2);
        CHECK.due("a", ring.leave(0), true);
        int undone = ring.count(8);
        CHECK.due("b's LIST is a", ring.leave(1), false);
        CHECK.due("IN", ring.count(4), 2);
        CHECK.due("no more can be undone", ring.count(8), undone);
    }

    static void promise11IsFalseForOthersAndOut() {
        NameRing ring = CHECK.settledRing(FOUR, 2);
        for (int node : NO_NODES) {
            CHECK.due("leave " + node, ring.leave(node), false);
        }
        CHECK.due("OUT", ring.leave(2), false);
        CHECK.due("a new object", new NameRing().leave(0), false);
    }

    // ---- promise 12

    static void promise12TellsHowManyKeysItHeld() {
        NameRing ring = CHECK.ringOf(FOUR + tenKeys());
        CHECK.dueDeeds(ring, "b0");
        CHECK.due("none", ring.fail(0), 0);
        CHECK.dueDeeds(ring, "b0 p90");
        CHECK.due("one", ring.fail(0), 1);
        CHECK.dueDeeds(ring, "b0 p00 p10 p20 p30 p40 p50 p60 p70 p80 p90");
        CHECK.due("ten", ring.fail(0), 10);
    }

    static void promise12NobodyHoldsItsKeysThen() {
        NameRing ring = richRing();
        CHECK.due("fail", ring.fail(0), 1);
        CHECK.dueHolders(ring, 1, 2, -1);
        CHECK.due("fail", ring.fail(1), 1);
        CHECK.dueHolders(ring, -1, 2, -1);
    }

    static void promise12ItIsOutThen() {
        NameRing ring = richRing();
        CHECK.dueDeeds(ring, "x1");
        dueNothing(ring, 1);
        CHECK.due("IN", ring.count(4), 5);
        CHECK.dueList(ring, 0, 1, 2);
        CHECK.due("ahead of c", ring.node(2, 3), 1);
    }

    static void promise12TheOthersKeepAllThatTheyHave() {
        NameRing ring = richRing();
        CHECK.dueDeeds(ring, "x0");
        dueOthersOfRich(ring);
        // and KEYS, of which one is held, are no FINGERS of an eighth one
        NameRing eight = CHECK.ringOf("circle 16;node a plain at 0;node b plain at 1;node c plain at 2;node d plain at 3;"
                + "node e plain at 4;node f plain at 5;node g plain at 6;node h plain at 7;key k at 0;");
        CHECK.dueDeeds(eight, "b0 p00 j70 x7");
        CHECK.dueHolders(eight, 0);
    }

    static void promise12OneAloneMayFail() {
        NameRing ring = CHECK.ringOf(FOUR);
        CHECK.dueDeeds(ring, "b0");
        CHECK.due("fail", ring.fail(0), 0);
        CHECK.due("nobody", ring.count(4), 0);
        CHECK.due("again", ring.fail(0), -1);
    }

    static void promise12OneWithoutAFirstMayFail() {
        NameRing ring = CHECK.settledRing("list 1;" + FOUR, 2);
        CHECK.dueDeeds(ring, "x0");
        CHECK.due("no FIRST", ring.node(1, 4), -1);
        CHECK.due("fail", ring.fail(1), 0);
    }

    static void promise12IsNoneForOthersAndOut() {
        NameRing ring = CHECK.settledRing(FOUR, 2);
        int undone = ring.count(8);
        for (int node : NO_NODES) {
            CHECK.due("fail " + node, ring.fail(node), -1);
        }
        CHECK.due("OUT", ring.fail(2), -1);
        CHECK.due("no more can be undone", ring.count(8), undone);
        CHECK.due("a new object", new NameRing().fail(0), -1);
    }

    // ---- promise 13

    static void promise13OneAloneListsItself() {
        NameRing ring = CHECK.ringOf("list 4;" + FOUR);
        CHECK.dueDeeds(ring, "b2");
        CHECK.due("tidy", ring.tidy(2), 2);
        CHECK.dueList(ring, 2, 2);
        CHECK.due("it is not ahead of itself", ring.node(2, 3), -1);
    }

    static void promise13ItsFirstIsMeantIfThatHasNoneAhead() {
        NameRing ring = CHECK.ringOf(FOUR);
        CHECK.dueDeeds(ring, "b0 j10");
        CHECK.due("tidy", ring.tidy(1), 0);
        CHECK.dueList(ring, 1, 0);
        CHECK.due("b is ahead of a", ring.node(0, 3), 1);
    }

    static void promise13TheOneAheadOfItsFirstIsMeantIfItIsBetween() {
        NameRing ring = CHECK.settledRing("list 3;" + FIVE, 4);
        CHECK.dueDeeds(ring, "j40 t4");
        CHECK.due("e is ahead of b", ring.node(1, 3), 4);
        CHECK.due("tidy", ring.tidy(0), 4);
        CHECK.dueList(ring, 0, 4, 1, 2);
        CHECK.due("a is ahead of e", ring.node(4, 3), 0);
        CHECK.due("e is ahead of b still", ring.node(1, 3), 4);
    }

    static void promise13AnyOneAheadIsBetweenItAndItself() {
        NameRing ring = CHECK.ringOf(FOUR);
        CHECK.dueDeeds(ring, "b0 j10 t1");
        CHECK.due("a's FIRST is itself", ring.node(0, 4), 0);
        CHECK.due("tidy", ring.tidy(0), 1);
        CHECK.dueList(ring, 0, 1);
    }

    static void promise13ItsFirstIsMeantIfTheOneAheadIsOut() {
        NameRing ring = CHECK.settledRing("list 3;" + FIVE, 4);
        CHECK.dueDeeds(ring, "j40 t4 x4");
        CHECK.due("e is ahead of b still", ring.node(1, 3), 4);
        CHECK.due("tidy", ring.tidy(0), 1);
        CHECK.dueList(ring, 0, 1, 2, 3);
    }

    static void promise13ItsFirstIsMeantIfTheOneAheadIsNotBetween() {
        NameRing ring = CHECK.settledRing("list 3;" + FIVE, 4);
        CHECK.dueDeeds(ring, "j40");
        CHECK.due("a is ahead of b", ring.node(1, 3), 0);
        CHECK.due("tidy e", ring.tidy(4), 1);
        CHECK.due("e is ahead of b", ring.node(1, 3), 4);
        CHECK.due("nor is it itself", ring.tidy(4), 1);
    }

    static void promise13ListsAsManyAsMayBe() {
        NameRing ring = CHECK.settledRing("list 4;circle 16;node a short at 0;node b plain at 4;node c plain at 8;node d plain at 12;", 4);
        CHECK.due("short", ring.tidy(0), 1);
        CHECK.dueList(ring, 0, 1);
        CHECK.due("plain", ring.tidy(1), 2);
        CHECK.dueList(ring, 1, 2, 3, 0);
        ring = CHECK.settledRing("list 1;" + FOUR, 4);
        CHECK.due("list 1", ring.tidy(1), 2);
        CHECK.dueList(ring, 1, 2);
    }

    static void promise13DoesNotListItselfBehindOthers() {
        NameRing ring = CHECK.settledRing("list 4;" + FOUR, 2);
        CHECK.due("b's LIST is a", ring.listed(1, 0), 0);
        CHECK.due("tidy a", ring.tidy(0), 1);
        CHECK.dueList(ring, 0, 1);
    }

    static void promise13ListsEachOnce() {
        NameRing ring = CHECK.ringOf("list 4;" + FOUR);
        CHECK.dueDeeds(ring, "b0 j10");
        CHECK.due("a's LIST is itself", ring.listed(0, 0), 0);
        CHECK.dueDeeds(ring, "t1");
        CHECK.dueList(ring, 1, 0);
    }

    static void promise13ListsThoseThatAreOutToo() {
        NameRing ring = CHECK.settledRing("list 3;" + FOUR, 4);
        CHECK.dueDeeds(ring, "x2 f0");
        CHECK.dueList(ring, 0, 1, 3);
        CHECK.due("tidy", ring.tidy(0), 1);
        CHECK.dueList(ring, 0, 1, 2, 3);
    }

    static void promise13RectifiesIfTheOneAheadIsOut() {
        NameRing ring = CHECK.settledRing("list 2;" + FIVE, 5);
        CHECK.due("e is ahead of b", ring.node(1, 3), 4);
        CHECK.dueDeeds(ring, "x4");
        CHECK.due("tidy a", ring.tidy(0), 1);
        // a is not between e and b, but e is OUT
        CHECK.due("a is ahead of b", ring.node(1, 3), 0);
    }

    static void promise13RectifiesIfItIsBetween() {
        NameRing ring = CHECK.settledRing("list 2;" + FIVE, 4);
        CHECK.due("a is ahead of b", ring.node(1, 3), 0);
        CHECK.dueDeeds(ring, "j40 t4");
        CHECK.due("e is ahead of b", ring.node(1, 3), 4);
    }

    static void promise13LeavesTheOneAheadIfItIsNotBetween() {
        NameRing ring = CHECK.settledRing("circle 16;node a plain at 0;node b plain at 8;node c plain at 6;node d plain at 3;", 2);
        CHECK.dueDeeds(ring, "j20 t2 j30 t3");
        CHECK.due("d is ahead of c", ring.node(2, 3), 3);
        CHECK.due("c is meant", ring.tidy(0), 2);
        CHECK.due("d is ahead of c still", ring.node(2, 3), 3);
    }

    static void promise13HasTheKeysThatAreNotUpToTheOneThatIsMeant() {
        NameRing ring = CHECK.ringOf("circle 16;node a plain at 0;node b plain at 8;"
                + "key k at 0;key l at 1;key m at 7;key n at 8;key o at 9;key p at 15;key q at 10;");
        CHECK.dueDeeds(ring, "b1 p01 p11 p21 p31 p41 p51 j01 t0");
        // 0, a's own PLACE, is the whole circle on; 8 is b's own
        CHECK.dueHolders(ring, 0, 1, 1, 1, 0, 0, -1);
    }

    static void promise13HasNoKeysOfOthers() {
        NameRing ring = CHECK.settledRing("list 2;" + FIVE + "key k at 9;key l at 1;", 4);
        CHECK.dueDeeds(ring, "p00 p10");
        CHECK.dueHolders(ring, 3, 1);
        CHECK.dueDeeds(ring, "j40 t4");
        // both are not up to b from e on, but d holds k
        CHECK.dueHolders(ring, 3, 4);
    }

    static void promise13AShyOneHasNoneOfThese() {
        NameRing ring = CHECK.ringOf("circle 16;node a shy at 0;node b plain at 8;key k at 0;key l at 9;");
        CHECK.dueDeeds(ring, "b1 p01 p11 j01 t0");
        CHECK.dueHolders(ring, 1, 1);
        CHECK.due("a is ahead of b", ring.node(1, 3), 0);
    }

    static void promise13AShyOneGivesThese() {
        NameRing ring = CHECK.ringOf("circle 16;node a plain at 0;node b shy at 8;key k at 0;key l at 9;");
        CHECK.dueDeeds(ring, "b1 p01 p11 j01 t0");
        CHECK.dueHolders(ring, 0, 0);
    }

    static void promise13HasNoKeysIfItWasAheadAlready() {
        String text = "list 2;circle 16;node a plain at 0;node b plain at 4;node c plain at 8;key k at 15;";
        NameRing ring = CHECK.settledRing(text, 3);
        CHECK.dueDeeds(ring, "p00 l0 j01");
        CHECK.due("a is ahead of b", ring.node(1, 3), 0);
        CHECK.dueDeeds(ring, "t0");
        CHECK.dueHolders(ring, 1);
        ring = CHECK.settledRing(text, 3);
        CHECK.dueDeeds(ring, "p00 l0 f1 j01");
        CHECK.due("none is", ring.node(1, 3), -1);
        CHECK.dueDeeds(ring, "t0");
        CHECK.dueHolders(ring, 0);
    }

    static void promise13CantBeWithoutAFirst() {
        NameRing ring = CHECK.settledRing("list 1;" + FOUR, 3);
        forgetPast(ring);
        CHECK.dueDeeds(ring, "x1");
        CHECK.due("a", ring.tidy(0), -1);
        CHECK.dueList(ring, 0, 1);
        CHECK.due("no more can be undone", ring.count(8), 1);
        CHECK.due("c can", ring.tidy(2), 0);
    }

    static void promise13IsNoneForOthersAndOut() {
        NameRing ring = CHECK.settledRing(FOUR, 2);
        for (int node : NO_NODES) {
            CHECK.due("tidy " + node, ring.tidy(node), -1);
        }
        CHECK.due("OUT", ring.tidy(2), -1);
        CHECK.due("a new object", new NameRing().tidy(0), -1);
    }

    // ---- promise 14

    static void promise14TellsHowManyWentOutOfListAndFingers() {
        NameRing ring = CHECK.settledRing("list 2;" + FOUR, 4);
        CHECK.dueDeeds(ring, "m0");
        CHECK.due("none", ring.flush(0), 0);
        CHECK.dueDeeds(ring, "x1");
        CHECK.due("of the LIST one, of the FINGERS three", ring.flush(0), 4);
        CHECK.dueList(ring, 0, 2);
        dueFingers(ring, 0, -1, -1, -1, 2);
        CHECK.due("again", ring.flush(0), 0);
    }

    static void promise14TheOneAheadGoesUncounted() {
        NameRing ring = CHECK.settledRing("list 1;" + FOUR, 4);
        CHECK.dueDeeds(ring, "x3");
        CHECK.due("none of the LIST", ring.flush(0), 0);
        CHECK.due("none ahead", ring.node(0, 3), -1);
        CHECK.dueList(ring, 0, 1);
    }

    static void promise14TheOneAheadStaysIfItIsIn() {
        NameRing ring = CHECK.settledRing("list 1;" + FOUR, 4);
        CHECK.dueDeeds(ring, "x1");
        CHECK.due("b", ring.flush(0), 1);
        CHECK.due("d is ahead", ring.node(0, 3), 3);
    }

    static void promise14KeepsTheOrder() {
        NameRing ring = CHECK.settledRing("list 4;circle 16;node a plain at 0;node b plain at 3;node c plain at 6;node d plain at 9;"
                + "node e plain at 12;", 5);
        CHECK.dueDeeds(ring, "x1 x3");
        CHECK.due("two", ring.flush(0), 2);
        CHECK.dueList(ring, 0, 2, 4);
    }

    static void promise14MayEmptyAList() {
        NameRing ring = CHECK.settledRing("list 2;" + FOUR, 4);
        CHECK.dueDeeds(ring, "x1 x2");
        CHECK.due("two", ring.flush(0), 2);
        CHECK.dueList(ring, 0);
        CHECK.due("no FIRST", ring.node(0, 4), -1);
        CHECK.due("none", ring.flush(0), 0);
    }

    static void promise14WhoComesAgainIsNotThereAnyMore() {
        NameRing ring = CHECK.settledRing("list 2;" + FOUR, 4);
        CHECK.dueDeeds(ring, "x1 f0 j13");
        CHECK.dueList(ring, 0, 2);
        CHECK.due("the FIRST", ring.node(0, 4), 2);
    }

    static void promise14LeavesTheOthersAlone() {
        NameRing ring = CHECK.settledRing("list 2;" + FOUR, 4);
        CHECK.dueDeeds(ring, "x1 f0");
        CHECK.dueList(ring, 3, 0, 1);
        CHECK.due("b is ahead of c", ring.node(2, 3), 1);
    }

    static void promise14OneAloneKeepsItself() {
        NameRing ring = CHECK.ringOf(FOUR);
        CHECK.dueDeeds(ring, "b0 m0");
        CHECK.due("none", ring.flush(0), 0);
        CHECK.dueList(ring, 0, 0);
        dueFingers(ring, 0, 0, 0, 0, 0);
    }

    static void promise14IsNoneForOthersAndOut() {
        NameRing ring = CHECK.settledRing(FOUR, 2);
        int undone = ring.count(8);
        for (int node : NO_NODES) {
            CHECK.due("flush " + node, ring.flush(node), -1);
        }
        CHECK.due("OUT", ring.flush(2), -1);
        CHECK.due("no more can be undone", ring.count(8), undone);
        CHECK.due("a new object", new NameRing().flush(0), -1);
    }

    // ---- promise 15

    static void promise15CanBeIf2ToThePowerIsLessThanTheCircle() {
        for (int circle : new int[] {8, 9, 15, 16, 17, 31, 32, 33, 63, 64, 65, 127, 128, 129, 255, 256}) {
            NameRing ring = CHECK.ringOf("circle " + circle + ";node a plain at " + (circle - 1) + ";");
            CHECK.dueDeeds(ring, "b0");
            for (int finger = 0; finger < 8; finger++) {
                boolean due = Math.pow(2, finger) < circle;
                CHECK.due("finger " + finger + " of " + circle, ring.fix(0, finger), due);
                CHECK.due("finger " + finger + " of " + circle, ring.finger(0, finger), due ? 0 : -1);
            }
        }
    }

    static void promise15TellsWhomItFinds() {
        NameRing ring = CHECK.settledRing("circle 16;node a plain at 0;node b plain at 2;node c plain at 4;node d plain at 5;", 4);
        CHECK.dueDeeds(ring, "i00 i01 i02 i03");
        // 1 is ahead of b, 2 is b's own, 4 is c's own, 8 is behind all but a
        dueFingers(ring, 0, 1, 1, 2, 0);
    }

    static void promise15ComesRoundTheCircle() {
        NameRing ring = CHECK.settledRing("circle 16;node a plain at 15;node b plain at 0;node c plain at 6;node d plain at 8;", 4);
        CHECK.dueDeeds(ring, "i00 i01 i02 i03");
        dueFingers(ring, 0, 1, 2, 2, 3);
    }

    static void promise15MayFindNone() {
        NameRing ring = CHECK.settledRing("list 1;" + FOUR, 2);
        CHECK.dueDeeds(ring, "i00");
        CHECK.due("b", ring.finger(0, 0), 1);
        CHECK.dueDeeds(ring, "x1");
        int undone = ring.count(8);
        CHECK.due("fix", ring.fix(0, 0), true);
        CHECK.due("none", ring.finger(0, 0), -1);
        CHECK.due("it can be undone", ring.count(8), undone + 1);
    }

    static void promise15CantBeOfABlindOne() {
        NameRing ring = CHECK.ringOf("circle 16;node a blind at 0;node b short at 4;node c shy at 8;");
        CHECK.dueDeeds(ring, "b0");
        for (int finger = 0; finger < 8; finger++) {
            CHECK.due("blind", ring.fix(0, finger), false);
        }
        dueFingers(ring, 0);
        CHECK.dueDeeds(ring, "j10 j20");
        CHECK.due("short", ring.fix(1, 3), true);
        CHECK.due("shy", ring.fix(2, 3), true);
    }

    static void promise15IsFalseForOthersAndOut() {
        NameRing ring = CHECK.ringOf("circle 256;node a plain at 0;node b plain at 4;node c plain at 8;node d plain at 12;");
        CHECK.dueDeeds(ring, "b0 j10");
        for (int node : NO_NODES) {
            CHECK.due("fix " + node, ring.fix(node, 0), false);
        }
        for (int finger : new int[] {LEAST, -32, -2, -1, 8, 9, 31, 32, 33, 64, MOST}) {
            CHECK.due("finger " + finger, ring.fix(0, finger), false);
        }
        CHECK.due("OUT", ring.fix(2, 0), false);
        CHECK.due("undone can be two", ring.count(8), 2);
        CHECK.due("a new object", new NameRing().fix(0, 0), false);
    }

    // ---- promise 16

    static void promise16TellsHowManyFingersAreOthers() {
        NameRing ring = CHECK.settledRing(FOUR, 4);
        CHECK.dueDeeds(ring, "i02");
        CHECK.due("three of four", ring.mend(0), 3);
        dueFingers(ring, 0, 1, 1, 1, 2);
        CHECK.due("none", ring.mend(0), 0);
        CHECK.dueDeeds(ring, "x1 t0");
        CHECK.due("those that were b", ring.mend(0), 3);
        dueFingers(ring, 0, 2, 2, 2, 2);
    }

    static void promise16FixesThoseThatCanBe() {
        int[] circles = {8, 9, 16, 17, 128, 129, 256};
        int[] due = {3, 4, 4, 5, 7, 8, 8};
        for (int i = 0; i < circles.length; i++) {
            NameRing ring = CHECK.ringOf("circle " + circles[i] + ";node a plain at 7;");
            CHECK.dueDeeds(ring, "b0");
            CHECK.due("mend of " + circles[i], ring.mend(0), due[i]);
            CHECK.due("the last one", ring.finger(0, due[i] - 1), 0);
            CHECK.due("no more", ring.finger(0, due[i]), -1);
        }
    }

    static void promise16ThoseThatAreNoneNowAreOthersToo() {
        NameRing ring = CHECK.settledRing("list 1;" + FOUR, 4);
        CHECK.dueDeeds(ring, "m0 x1");
        dueFingers(ring, 0, 1, 1, 1, 2);
        CHECK.due("all four", ring.mend(0), 4);
        dueFingers(ring, 0);
        CHECK.due("none are others then", ring.mend(0), 0);
    }

    static void promise16FixesThemByNumbers() {
        NameRing ring = CHECK.settledRing("list 1;circle 16;node a plain at 0;node b plain at 2;node c plain at 7;node d plain at 5;", 3);
        CHECK.dueDeeds(ring, "i02");
        CHECK.due("4 is c's", ring.finger(0, 2), 2);
        CHECK.dueDeeds(ring, "j31 t3 t1 x3");
        // b has no FIRST now: for 4 nobody is found; and for 8 over c no more, as that FINGER is none already
        CHECK.due("mend", ring.mend(0), 3);
        dueFingers(ring, 0, 1, 1, -1, -1);
    }

    static void promise16CountsAsOneForUndo() {
        NameRing ring = CHECK.settledRing(FOUR, 2);
        CHECK.dueDeeds(ring, "i00 m0");
        CHECK.due("undo", ring.undo(), true);
        dueFingers(ring, 0, 1);
    }

    static void promise16CantBeOfABlindOne() {
        NameRing ring = CHECK.ringOf("circle 16;node a blind at 0;");
        CHECK.dueDeeds(ring, "b0");
        CHECK.due("mend", ring.mend(0), -1);
        CHECK.due("undone can be one", ring.count(8), 1);
    }

    static void promise16IsNoneForOthersAndOut() {
        NameRing ring = CHECK.settledRing(FOUR, 2);
        for (int node : NO_NODES) {
            CHECK.due("mend " + node, ring.mend(node), -1);
        }
        CHECK.due("OUT", ring.mend(2), -1);
        CHECK.due("a new object", new NameRing().mend(0), -1);
    }

    // ---- promise 17

    static void promise17WhomItFindsHoldsIt() {
        NameRing ring = CHECK.settledRing(FOUR + "key k at 4;key l at 5;key m at 0;key n at 13;", 4);
        int[] due = {1, 2, 0, 0};
        for (int by = 0; by < 4; by++) {
            for (int key = 0; key < 4; key++) {
                CHECK.due("put " + key + " by " + by, ring.put(key, by), due[key]);
            }
        }
        CHECK.dueHolders(ring, due);
    }

    static void promise17OneHoldsItNoMoreIfAnotherDoes() {
        NameRing ring = CHECK.settledRing("list 2;" + FIVE + "key k at 1;", 4);
        CHECK.dueDeeds(ring, "p00");
        CHECK.due("b", ring.node(1, 5), 1);
        CHECK.dueDeeds(ring, "l1 j12");
        CHECK.due("c", ring.node(2, 5), 1);
        CHECK.due("put", ring.put(0, 0), 1);
        CHECK.due("b", ring.node(1, 5), 1);
        CHECK.due("c no more", ring.node(2, 5), 0);
        CHECK.due("held", ring.count(5), 1);
    }

    static void promise17CantBeIfNobodyIsFound() {
        NameRing ring = CHECK.settledRing("list 1;" + FOUR + "key k at 1;", 4);
        forgetPast(ring);
        CHECK.dueDeeds(ring, "p00 x1");
        CHECK.due("lost", ring.key(0, 1), -1);
        for (int by = 0; by < 4; by++) {
            CHECK.due("by " + by, ring.put(0, by), -1);
        }
        CHECK.due("held by nobody", ring.key(0, 1), -1);
        CHECK.due("no more can be undone", ring.count(8), 2);
    }

    static void promise17WhoHoldsItStaysIfNobodyIsFound() {
        NameRing ring = CHECK.settledRing("list 1;" + FOUR + "key k at 5;", 4);
        CHECK.dueDeeds(ring, "p00 x1");
        CHECK.due("by a", ring.put(0, 0), -1);
        CHECK.dueHolders(ring, 2);
    }

    static void promise17IsNoneForOthersAndOut() {
        NameRing ring = CHECK.settledRing(FOUR + "key k at 1;", 2);
        for (int node : NO_NODES) {
            CHECK.due("by " + node, ring.put(0, node), -1);
        }
        for (int key : NO_KEYS) {
            CHECK.due("key " + key, ring.put(key, 0), -1);
        }
        CHECK.due("by one OUT", ring.put(0, 2), -1);
        CHECK.due("held", ring.count(5), 0);
        CHECK.due("a new object", new NameRing().put(0, 0), -1);
    }

    // ---- promise 18

    static void promise18TellsHowManyWentToAnotherOne() {
        NameRing ring = CHECK.ringOf(FOUR + "key k at 1;key l at 4;key m at 5;key n at 14;key o at 2;");
        CHECK.dueDeeds(ring, "b0 p00 p10 p20 p30");
        CHECK.due("all are its own", ring.hand(0), 0);
        CHECK.dueHolders(ring, 0, 0, 0, 0, -1);
        CHECK.dueDeeds(ring, "j10");
        // a's FIRST is itself still
        CHECK.due("none", ring.hand(0), 0);
        CHECK.due("undo", ring.undo(), true);
        CHECK.due("undo", ring.undo(), true);
        CHECK.dueHolders(ring, 0, 0, 0, 0, -1);
    }

    static void promise18EachGoesToWhomItFinds() {
        NameRing ring = CHECK.settledRing("circle 16;node a shy at 0;node b shy at 4;node c shy at 8;node d shy at 12;"
                + "key k at 1;key l at 4;key m at 5;key n at 14;key o at 10;", 1);
        CHECK.dueDeeds(ring, "p00 p10 p20 p30 p40 j10 j20 j30");
        for (int i = 0; i < 6; i++) {
            CHECK.dueDeeds(ring, "t0 t1 t2 t3");
        }
        // shy ones had none by tidying
        CHECK.dueHolders(ring, 0, 0, 0, 0, 0);
        CHECK.due("four went", ring.hand(0), 4);
        CHECK.dueHolders(ring, 1, 1, 2, 0, 3);
        CHECK.due("none", ring.hand(0), 0);
        CHECK.due("nor of b", ring.hand(1), 0);
    }

    static void promise18ItKeepsThoseThatFindNobody() {
        NameRing ring = CHECK.settledRing("list 1;" + FOUR + "key k at 14;key l at 15;", 4);
        CHECK.dueDeeds(ring, "p00 p10 x1");
        CHECK.dueHolders(ring, 0, 0);
        CHECK.due("none", ring.hand(0), 0);
        CHECK.dueHolders(ring, 0, 0);
    }

    static void promise18OneThatHoldsNoneHandsNone() {
        NameRing ring = CHECK.settledRing(FOUR + "key k at 14;", 2);
        forgetPast(ring);
        CHECK.due("none", ring.hand(0), 0);
        CHECK.due("it can be undone", ring.count(8), 1);
        CHECK.dueHolders(ring, -1);
    }

    static void promise18IsNoneForOthersAndOut() {
        NameRing ring = CHECK.settledRing(FOUR + "key k at 14;", 2);
        for (int node : NO_NODES) {
            CHECK.due("hand " + node, ring.hand(node), -1);
        }
        CHECK.due("OUT", ring.hand(2), -1);
        CHECK.due("a new object", new NameRing().hand(0), -1);
    }

    // ---- promise 19

    static void promise19UndoesEachKindOfDeed() {
        String[] deeds = {"j30", "l0", "x0", "t0", "f0", "i03", "m0", "p20", "h0"};
        for (String deed : deeds) {
            NameRing ring = CHECK.settledRing("list 2;" + FOUR + "key k at 3;key l at 8;key m at 14;", 3);
            CHECK.dueDeeds(ring, "p00 p10 x1");
            String before = Check.stateOf(ring, 4, 3);
            CHECK.dueDeeds(ring, deed);
            CHECK.due("undo of " + deed, ring.undo(), true);
            CHECK.dueText("behind the undo of " + deed, Check.stateOf(ring, 4, 3), before);
        }
    }

    static void promise19UndoesABegin() {
        NameRing ring = CHECK.ringOf(FOUR);
        CHECK.dueDeeds(ring, "b0");
        CHECK.due("undo", ring.undo(), true);
        dueNothing(ring, 0);
        CHECK.due("nobody is IN", ring.count(4), 0);
        CHECK.due("no more", ring.undo(), false);
    }

    static void promise19UndoesOneByOne() {
        dueUndoneOneByOne("b0", "p00", "j10", "t1", "t0", "i00");
        dueUndoneOneByOne("b0", "p00", "f0", "h0", "m0", "x0");
    }

    private static void dueUndoneOneByOne(String... deeds) {
        NameRing ring = CHECK.ringOf(FOUR + "key k at 1;");
        String[] states = new String[deeds.length];
        for (int i = 0; i < deeds.length; i++) {
            states[i] = Check.stateOf(ring, 2, 1);
            CHECK.dueDeeds(ring, deeds[i]);
            CHECK.due("can be undone", ring.count(8), i + 1);
        }
        for (int i = deeds.length - 1; i >= 0; i--) {
            CHECK.due("undo of " + deeds[i], ring.undo(), true);
            CHECK.dueText("behind the undo of " + deeds[i], Check.stateOf(ring, 2, 1), states[i]);
            CHECK.due("can be undone", ring.count(8), i);
        }
        CHECK.due("no more", ring.undo(), false);
    }

    static void promise19UndoesTheLast16() {
        NameRing ring = CHECK.ringOf("circle 256;node a plain at 0;node b plain at 4;");
        CHECK.dueDeeds(ring, "b0");
        CHECK.dueDeeds(ring, "i00 i01 i02 i03 i04 i05 i06");
        CHECK.dueDeeds(ring, "f0 f0 f0 f0 f0 f0 f0 f0");
        CHECK.due("16", ring.count(8), 16);
        for (int i = 0; i < 16; i++) {
            CHECK.due("undo " + i, ring.undo(), true);
        }
        CHECK.due("the begin, too", ring.count(4), 0);
        CHECK.due("no more", ring.undo(), false);
    }

    static void promise19DoesNotUndoThe17th() {
        NameRing ring = CHECK.ringOf("circle 256;node a plain at 0;node b plain at 4;");
        CHECK.dueDeeds(ring, "b0 i00");
        CHECK.dueDeeds(ring, "i01 i02 i03 i04 i05 i06 i07");
        CHECK.dueDeeds(ring, "f0 f0 f0 f0 f0 f0 f0 f0");
        CHECK.due("16", ring.count(8), 16);
        for (int i = 0; i < 16; i++) {
            CHECK.due("undo " + i, ring.undo(), true);
        }
        CHECK.due("a is IN still", ring.count(4), 1);
        dueFingers(ring, 0);
        CHECK.due("no more", ring.undo(), false);
    }

    static void promise19ManyDeedsLeave16() {
        NameRing ring = CHECK.ringOf("circle 256;node a plain at 0;node b plain at 4;");
        CHECK.dueDeeds(ring, "b0");
        for (int i = 0; i < 100; i++) {
            CHECK.dueDeeds(ring, "f0");
        }
        CHECK.due("16", ring.count(8), 16);
        CHECK.due("undo", ring.undo(), true);
        CHECK.due("15", ring.count(8), 15);
        CHECK.dueDeeds(ring, "i00 i01");
        CHECK.due("16", ring.count(8), 16);
        CHECK.due("undo", ring.undo(), true);
        dueFingers(ring, 0, 0);
    }

    static void promise19TheLast16OfManyAreUndoneRightly() {
        NameRing ring = CHECK.ringOf(FOUR);
        String[] deeds = {"b0", "x0", "b1", "x1", "b2", "x2", "b3", "x3"};
        int[] in = {1, 0, 2, 0, 4, 0, 8, 0};
        for (int many = 1; many <= 60; many++) {
            CHECK.dueDeeds(ring, deeds[(many - 1) % 8]);
        }
        for (int many = 60; many > 44; many--) {
            CHECK.due("who is IN", ring.count(4), in[(many - 1) % 8]);
            CHECK.due("undo", ring.undo(), true);
        }
        CHECK.due("who is IN", ring.count(4), in[43 % 8]);
        CHECK.due("no more", ring.undo(), false);
    }

    static void promise19WhatIsRefusedBehind16LeavesThem() {
        NameRing ring = CHECK.ringOf("circle 256;node a plain at 0;node b plain at 4;key k at 1;");
        CHECK.dueDeeds(ring, "b0 p00 i00 i01 i02 i03 i04 i05 i06 i07 f0 f0 f0 f0 f0 f0");
        CHECK.due("16", ring.count(8), 16);
        CHECK.due("begin", ring.start(1), false);
        CHECK.due("join", ring.join(0, 0), -1);
        CHECK.due("leave", ring.leave(0), false);
        CHECK.due("16 still", ring.count(8), 16);
        for (int i = 0; i < 16; i++) {
            CHECK.due("undo", ring.undo(), true);
        }
        dueNothing(ring, 0);
        CHECK.dueHolders(ring, -1);
        CHECK.due("no more", ring.undo(), false);
    }

    static void promise19WhatCantBeIsNotUndone() {
        NameRing ring = CHECK.ringOf(FOUR + "key k at 1;");
        CHECK.dueDeeds(ring, "b0");
        ring.start(1);
        ring.join(0, 0);
        ring.leave(0);
        ring.fail(1);
        ring.tidy(1);
        ring.flush(1);
        ring.fix(0, 4);
        ring.mend(1);
        ring.put(1, 0);
        ring.hand(1);
        CHECK.due("one", ring.count(8), 1);
        CHECK.due("undo", ring.undo(), true);
        CHECK.due("nobody is IN", ring.count(4), 0);
    }

    static void promise19WhatIsAskedIsNotUndone() {
        NameRing ring = CHECK.settledRing(FOUR + "key k at 1;", 3);
        CHECK.due("16", ring.count(8), 16);
        CHECK.dueDeeds(ring, "x2");
        ring.see(1, 0, true);
        ring.mark(0, false);
        Check.tellWork(ring, "begin a;");
        ring.judged(1);
        ring.drives(1, 99, 0);
        ring.after(30, 0);
        Check.feed(ring, "abc");
        CHECK.due("undo", ring.undo(), true);
        CHECK.due("c is IN again", ring.count(4), 7);
        CHECK.due("what is seen stays", ring.count(7), 1);
        CHECK.due("the work stays", ring.count(6), 1);
        CHECK.due("the tape stays", ring.count(9), 3);
        CHECK.due("the mark stays", ring.mark(0, true), true);
        CHECK.due("who was IN then", ring.count(4), 3);
    }

    static void promise19NothingIsUndoneAtFirst() {
        CHECK.due("a new object", new NameRing().undo(), false);
        NameRing ring = CHECK.ringOf(FOUR);
        CHECK.due("a new ring", ring.undo(), false);
        CHECK.dueDeeds(ring, "b0");
        CHECK.due("another", Check.tellRing(ring, FOUR), 0);
        CHECK.due("nothing", ring.undo(), false);
    }

    // ---- promise 47

    static void promise47Marks0To3() {
        NameRing ring = CHECK.ringOf(FOUR);
        for (int mark = 0; mark < 4; mark++) {
            CHECK.due("lay " + mark, ring.mark(mark, false), true);
            CHECK.due("back " + mark, ring.mark(mark, true), true);
        }
        for (int mark : new int[] {LEAST, -2, -1, 4, 5, 32, MOST}) {
            CHECK.due("lay " + mark, ring.mark(mark, false), false);
            CHECK.due("back " + mark, ring.mark(mark, true), false);
        }
        CHECK.due("a new object, too", new NameRing().mark(0, false), true);
    }

    static void promise47IsFalseIfNothingIsOnIt() {
        NameRing ring = CHECK.ringOf(FOUR);
        CHECK.dueDeeds(ring, "b0");
        CHECK.due("lay 2", ring.mark(2, false), true);
        CHECK.dueDeeds(ring, "j10");
        for (int mark : new int[] {0, 1, 3}) {
            CHECK.due("back " + mark, ring.mark(mark, true), false);
        }
        CHECK.due("who is IN stays", ring.count(4), 3);
        CHECK.due("what can be undone, too", ring.count(8), 2);
    }

    static void promise47HoldsAllThatNodesHave() {
        NameRing ring = richRing();
        String before = Check.stateOf(ring, 4, 3);
        CHECK.due("lay", ring.mark(1, false), true);
        CHECK.dueDeeds(ring, "x0 f1 f2 x2 x1 b3 m3 p03");
        CHECK.due("back", ring.mark(1, true), true);
        CHECK.dueText("all", Check.stateOf(ring, 4, 3), before);
    }

    static void promise47HoldsWhatIsSeen() {
        NameRing ring = CHECK.settledRing(FOUR, 4);
        CHECK.due("see", ring.see(0, 0, false), true);
        CHECK.due("nobody", ring.who(), 0);
        CHECK.due("lay 0", ring.mark(0, false), true);
        for (int i = 0; i < 7; i++) {
            CHECK.due("see", ring.see(i, 20, false), true);
        }
        CHECK.due("lay 1", ring.mark(1, false), true);
        CHECK.due("back", ring.mark(0, true), true);
        CHECK.due("one", ring.count(7), 1);
        CHECK.due("one more finds room", ring.see(5, 0, true), true);
        CHECK.due("back", ring.mark(1, true), true);
        CHECK.due("eight", ring.count(7), 8);
        CHECK.due("no more find room", ring.see(5, 0, true), false);
    }

    static void promise47HoldsWhatWasSeenNotOnlyHowMany() {
        NameRing ring = CHECK.settledRing("list 1;" + FOUR, 4);
        // to 1: a 0, d 1, c 2, b 3; to 13: d 0, c 1, b 2, a 3
        CHECK.due("lay 0", ring.mark(0, false), true);
        CHECK.due("see", ring.see(1, 1, true), true);
        CHECK.due("lay 1", ring.mark(1, false), true);
        int[][] others = {{13, 1, 1}, {1, 2, 1}, {1, 1, 0}};
        int[] who = {7, 6, 1};
        for (int i = 0; i < 3; i++) {
            CHECK.due("back 0", ring.mark(0, true), true);
            CHECK.due("see", ring.see(others[i][0], others[i][1], others[i][2] == 1), true);
            CHECK.due("who", ring.who(), who[i]);
            CHECK.due("back 1", ring.mark(1, true), true);
            CHECK.due("b, c, d", ring.who(), 14);
        }
    }

    static void promise47LeavesTheTexts() {
        NameRing ring = CHECK.ringOf(FOUR);
        Check.tellWork(ring, "begin a;");
        Check.feed(ring, "ab");
        CHECK.due("lay", ring.mark(0, false), true);
        CHECK.due("the tape stays", ring.count(9), 2);
        Check.tellWork(ring, "");
        Check.feed(ring, "c");
        CHECK.due("no lines", Check.tellWork(ring, ""), 1);
        Check.tellWork(ring, "begin a;begin b;");
        Check.feed(ring, "xyz");
        CHECK.due("back", ring.mark(0, true), true);
        CHECK.due("the tape stays", ring.count(9), 3);
        CHECK.due("the work stays", ring.count(6), 2);
        CHECK.due("the ring stays", ring.count(2), 4);
    }

    static void promise47NothingCanBeUndoneWhenOneIsGoneBackTo() {
        NameRing ring = CHECK.settledRing(FOUR, 3);
        CHECK.due("lay", ring.mark(0, false), true);
        CHECK.due("laying leaves it", ring.count(8), 16);
        CHECK.due("back", ring.mark(0, true), true);
        CHECK.due("nothing", ring.count(8), 0);
        CHECK.due("undo", ring.undo(), false);
        CHECK.due("who is IN", ring.count(4), 7);
        CHECK.dueDeeds(ring, "x0");
        CHECK.due("what is done then can", ring.undo(), true);
        CHECK.due("who is IN", ring.count(4), 7);
        CHECK.due("no more", ring.undo(), false);
    }

    static void promise47AMarkStaysAsItWasLaid() {
        NameRing ring = CHECK.ringOf(FOUR + "key k at 1;");
        CHECK.dueDeeds(ring, "b0 p00");
        CHECK.due("lay", ring.mark(3, false), true);
        for (int i = 0; i < 3; i++) {
            CHECK.dueDeeds(ring, "x0 b1");
            CHECK.due("back", ring.mark(3, true), true);
            CHECK.due("a is IN", ring.count(4), 1);
            CHECK.dueHolders(ring, 0);
        }
    }

    static void promise47OneMayBeLaidAnew() {
        NameRing ring = CHECK.ringOf(FOUR);
        CHECK.due("lay", ring.mark(0, false), true);
        CHECK.dueDeeds(ring, "b2");
        CHECK.due("lay anew", ring.mark(0, false), true);
        CHECK.dueDeeds(ring, "x2");
        CHECK.due("back", ring.mark(0, true), true);
        CHECK.due("c is IN", ring.count(4), 4);
    }

    static void promise47AFaultLeavesThemANewRingDoesNot() {
        NameRing ring = CHECK.ringOf(FOUR);
        CHECK.dueDeeds(ring, "b2");
        CHECK.due("lay", ring.mark(0, false), true);
        CHECK.due("fault", Check.tellRing(ring, "circle"), 1 + 16 * 6);
        CHECK.due("back", ring.mark(0, true), true);
        CHECK.due("ring", Check.tellRing(ring, FOUR), 0);
        CHECK.due("no mark", ring.mark(0, true), false);
        CHECK.due("nobody is IN", ring.count(4), 0);
    }
}
