/** The edges that the document names for promises 20 to 46 and 48: all that is asked; a test each. */
public final class QuestionEdgesTest {
    private static final Check CHECK = new Check();
    private static final int LEAST = Integer.MIN_VALUE;
    private static final int MOST = Integer.MAX_VALUE;
    private static final String FOUR = "circle 16;node a plain at 0;node b plain at 4;node c plain at 8;node d plain at 12;";
    /** The OWNERS, if all four are IN: k b, l b, m d, n a. */
    private static final String KEYS = "key k at 1;key l at 4;key m at 9;key n at 13;";
    private static final String EIGHT = "circle 16;node a plain at 0;node b plain at 2;node c plain at 4;node d plain at 6;"
            + "node e plain at 8;node f plain at 10;node g plain at 12;node h plain at 14;";
    /** Numbers that are of no NODE, when there are four. */
    private static final int[] NO_NODES = {LEAST, -33, -2, -1, 4, 7, 8, 9, 31, 32, 33, 64, MOST};

    public static void main(String[] args) throws IllegalAccessException {
        CHECK.runPromises(QuestionEdgesTest.class);
        CHECK.finish("QuestionEdgesTest");
    }

    private static String tenKeys() {
        StringBuilder text = new StringBuilder();
        for (int i = 0; i < 10; i++) {
            text.append("key k").append((char) ('a' + i)).append(" at ").append(i).append(';');
        }
        return text.toString();
    }

    /** a, b, c and d are IN, but a's LIST is b alone, who has failed: a has no FIRST, c follows d and d a. */
    private static NameRing tornRing() {
        NameRing ring = CHECK.settledRing("list 1;" + FOUR + KEYS, 4);
        CHECK.dueDeeds(ring, "x1");
        return ring;
    }

    /** a follows itself, b, c and d follow a. */
    private static NameRing starRing() {
        NameRing ring = CHECK.ringOf("list 1;" + FOUR + KEYS);
        CHECK.dueDeeds(ring, "b0 j10 j20 j30");
        return ring;
    }

    /** The NODES at 0 and 4 follow one another, so do those at 8 and 12; the one at 2 follows the one at 0. */
    private static NameRing twoCycles() {
        NameRing ring = CHECK.ringOf("list 2;circle 16;node a plain at 0;node b plain at 2;node c plain at 4;node d plain at 8;node e plain at 12;");
        CHECK.dueDeeds(ring, "b0 j10 j30 t3 t0 j43 t4 t3");
        // a goes, e forgets it, and a comes again by d: it follows d, who follows e; b has followed a all the time
        CHECK.dueDeeds(ring, "x0 f4 j03");
        // c is ahead of d, goes, and comes again by b: so it follows a
        CHECK.dueDeeds(ring, "j20 t2 x2 j21");
        CHECK.due("d tells a of c", ring.tidy(0), 2);
        return ring;
    }

    /** 0 to 12, 12 to 8, 8 to 0: twice round the circle. */
    private static NameRing twiceRound() {
        NameRing ring = CHECK.ringOf("list 2;circle 16;node a plain at 0;node b plain at 2;node c plain at 4;node d plain at 8;node e plain at 12;");
        CHECK.dueDeeds(ring, "b0 j10 j30 t3 t0 j43 t4 t3 x0 f4 j03 x3 t0 j31");
        CHECK.due("a to e", ring.node(0, 4), 4);
        CHECK.due("e to d", ring.node(4, 4), 3);
        CHECK.due("d to a", ring.node(3, 4), 0);
        return ring;
    }

    // ---- promise 20

    private static void dueJudged(NameRing ring, String work, int line, int in, int held) {
        CHECK.due("the fault of " + work, Check.tellWork(ring, work), 0);
        CHECK.due("line of " + work, ring.judged(0), line);
        CHECK.due("in by " + work, ring.judged(1), in);
        CHECK.due("held by " + work, ring.judged(2), held);
    }

    static void promise20WithoutAWorkNothingIsWrong() {
        NameRing ring = new NameRing();
        CHECK.due("line", ring.judged(0), -1);
        CHECK.due("in", ring.judged(1), 0);
        CHECK.due("held", ring.judged(2), 0);
        dueJudged(CHECK.settledRing(FOUR + KEYS, 4), "", -1, 0, 0);
    }

    static void promise20AnswersMinus2ForAnotherWhat() {
        NameRing ring = CHECK.ringOf(FOUR);
        for (int what : new int[] {LEAST, -2, -1, 3, 4, 32, MOST}) {
            CHECK.due("what " + what, ring.judged(what), -2);
        }
    }

    static void promise20BeginsFromTheRingAsTold() {
        NameRing ring = CHECK.settledRing(FOUR + KEYS, 4);
        CHECK.dueDeeds(ring, "p00 p10");
        dueJudged(ring, "begin c;", -1, 1, 0);
        dueJudged(ring, "tidy a;", 0, 0, 0);
    }

    static void promise20LeavesAllAsItIs() {
        NameRing ring = CHECK.settledRing(FOUR + KEYS, 4);
        CHECK.dueDeeds(ring, "p00 p10 m0 x3");
        String before = Check.stateOf(ring, 4, 4);
        dueJudged(ring, "begin c;put k c;join a c;tidy a;fix a 1;", -1, 2, 1);
        CHECK.dueText("all", Check.stateOf(ring, 4, 4), before);
        CHECK.due("undo", ring.undo(), true);
        CHECK.due("d is IN again", ring.count(4), 15);
    }

    static void promise20TellsTheFirstLineThatCantBe() {
        NameRing ring = CHECK.ringOf(FOUR + KEYS);
        dueJudged(ring, "begin a;begin b;begin c;", 1, 1, 0);
        dueJudged(ring, "begin a;join b a;join b a;leave d;", 2, 2, 0);
    }

    static void promise20LeavesOutTheLinesThatCantBe() {
        NameRing ring = CHECK.ringOf(FOUR + KEYS);
        dueJudged(ring, "join a b;put k a;begin a;put k a;begin b;put l a;", 0, 1, 2);
    }

    static void promise20JudgesEachKindOfDeed() {
        NameRing ring = CHECK.ringOf("circle 16;node a plain at 0;node b plain at 4;node c blind at 8;key k at 1;key l at 2;");
        String[] cant = {"begin b;", "join a a;", "join b b;", "join b c;", "leave a;", "leave b;", "fail b;", "tidy b;", "flush b;",
            "fix b 0;", "fix a 4;", "fix a 7;", "put k b;", "hand b;"};
        for (String line : cant) {
            dueJudged(ring, "begin a;" + line, 1, 1, 0);
        }
        dueJudged(ring, "begin c;fix c 0;", 1, 1, 0);
        dueJudged(ring, "begin a;join b a;tidy b;tidy a;flush a;fix a 3;put k a;put l b;hand b;leave a;", -1, 1, 2);
        dueJudged(ring, "begin a;put k a;fail a;begin b;", -1, 1, 0);
    }

    static void promise20CountsThoseInAndHeldAtLast() {
        NameRing ring = CHECK.ringOf(EIGHT + tenKeys());
        StringBuilder work = new StringBuilder("begin a;");
        for (char name = 'b'; name <= 'h'; name++) {
            work.append("join ").append(name).append(" a;");
        }
        for (char name = 'a'; name <= 'j'; name++) {
            work.append("put k").append(name).append(" a;");
        }
        dueJudged(ring, work.toString(), -1, 8, 10);
        dueJudged(ring, work + "fail a;", -1, 7, 0);
    }

    static void promise20JudgesThe40thLine() {
        dueJudged(CHECK.ringOf(FOUR), "begin a;" + "tidy a;".repeat(38) + "join a a;", 39, 1, 0);
    }

    // ---- promises 21 to 23

    static void promise21IsItsFirstUpToThatOnesPlace() {
        NameRing ring = CHECK.settledRing("list 1;" + FOUR, 4);
        for (int place = 1; place <= 4; place++) {
            CHECK.duePath(ring, 0, place, 1);
        }
        CHECK.duePath(ring, 0, 5, 2, 1);
        CHECK.duePath(ring, 3, 15, 0);
        CHECK.duePath(ring, 3, 0, 0);
        CHECK.duePath(ring, 3, 1, 1, 0);
    }

    static void promise21ItsOwnPlaceIsTheWholeCircleOn() {
        NameRing ring = CHECK.settledRing("list 1;" + FOUR, 4);
        CHECK.duePath(ring, 0, 0, 0, 1, 2, 3);
        CHECK.duePath(ring, 1, 4, 1, 2, 3, 0);
    }

    static void promise21OneAloneFindsItself() {
        NameRing ring = CHECK.ringOf(FOUR);
        CHECK.dueDeeds(ring, "b1");
        for (int place = 0; place < 16; place++) {
            CHECK.duePath(ring, 1, place, 1);
        }
    }

    static void promise21AsksOnAtTheFarthestThatIsBetween() {
        NameRing ring = CHECK.settledRing("list 3;" + FOUR, 4);
        CHECK.duePath(ring, 0, 13, 0, 3);
        // the one at the PLACE itself is not between
        CHECK.duePath(ring, 0, 12, 3, 2);
        CHECK.duePath(ring, 0, 9, 3, 2);
        CHECK.duePath(ring, 0, 8, 2, 1);
    }

    static void promise21AsksOnAtFingersToo() {
        NameRing ring = CHECK.settledRing("list 1;" + FOUR, 4);
        CHECK.dueDeeds(ring, "i03");
        CHECK.duePath(ring, 0, 13, 0, 2, 3);
        CHECK.duePath(ring, 0, 8, 2, 1);
        CHECK.duePath(ring, 3, 12, 3, 0, 2);
    }

    static void promise21AsksOnAtTheListIfThatIsFarther() {
        NameRing ring = CHECK.settledRing("list 3;" + FOUR, 4);
        CHECK.dueDeeds(ring, "i00 i01");
        CHECK.due("the FINGERS are b", ring.finger(0, 1), 1);
        CHECK.duePath(ring, 0, 13, 0, 3);
    }

    static void promise21AsksOnAtTheFirstAndTheLastFinger() {
        NameRing ring = CHECK.settledRing("list 1;circle 16;node a plain at 0;node b plain at 8;node c plain at 4;", 2);
        CHECK.dueDeeds(ring, "i00 j20 t2 t0");
        CHECK.dueList(ring, 0, 2);
        CHECK.duePath(ring, 0, 10, 0, 1);
        ring = CHECK.settledRing("list 1;circle 256;node a plain at 0;node b plain at 10;node c plain at 20;node d plain at 200;", 4);
        CHECK.dueDeeds(ring, "i07");
        CHECK.duePath(ring, 0, 201, 0, 3);
    }

    static void promise21DoesNotAskOnAtThoseThatAreOut() {
        NameRing ring = CHECK.settledRing("list 3;" + FOUR, 4);
        CHECK.dueDeeds(ring, "m0 x2");
        CHECK.due("the finger", ring.finger(0, 3), 2);
        CHECK.duePath(ring, 0, 12, 3, 1);
    }

    static void promise21DoesNotAskOnAtTheOneAhead() {
        NameRing ring = CHECK.settledRing("list 1;" + FOUR, 4);
        CHECK.due("d is ahead of a", ring.node(0, 3), 3);
        CHECK.duePath(ring, 0, 14, 0, 1, 2, 3);
    }

    static void promise21FindsNobodyWithoutAFirst() {
        NameRing ring = tornRing();
        for (int place = 0; place < 16; place++) {
            CHECK.dueNoPath(ring, 0, place);
        }
        CHECK.duePath(ring, 3, 0, 0);
        // those behind a are asked for at a
        CHECK.dueNoPath(ring, 3, 1);
        CHECK.dueNoPath(ring, 2, 8);
        CHECK.duePath(ring, 2, 13, 0, 3);
    }

    static void promise21GoesOverSevenOthersAtMost() {
        NameRing ring = CHECK.settledRing("list 1;" + EIGHT, 8);
        CHECK.duePath(ring, 0, 0, 0, 1, 2, 3, 4, 5, 6, 7);
        CHECK.duePath(ring, 4, 8, 4, 5, 6, 7, 0, 1, 2, 3);
    }

    static void promise21IsNoneForOthersAndOut() {
        NameRing ring = CHECK.settledRing(FOUR, 3);
        for (int node : NO_NODES) {
            CHECK.dueNoPath(ring, node, 1);
        }
        for (int place : new int[] {LEAST, -16, -2, -1, 16, 17, 32, 255, MOST}) {
            CHECK.dueNoPath(ring, 0, place);
        }
        CHECK.duePath(ring, 0, 15, 0, 2);
        CHECK.dueNoPath(ring, 3, 1);
        CHECK.dueNoPath(new NameRing(), 0, 0);
        CHECK.dueNoPath(CHECK.ringOf("circle 8;"), 0, 0);
    }

    static void promise22Tells0IfItIsFoundAtOnce() {
        NameRing ring = CHECK.settledRing("list 1;" + FOUR, 4);
        CHECK.due("at once", ring.steps(0, 4), 0);
        CHECK.due("over one", ring.steps(0, 5), 1);
        CHECK.due("over three", ring.steps(0, 0), 3);
    }

    static void promise22IsNoneIfNobodyIsFound() {
        NameRing ring = tornRing();
        CHECK.due("no FIRST", ring.steps(0, 1), -1);
        CHECK.due("none on the way", ring.steps(2, 1), -1);
        CHECK.due("OUT", ring.steps(1, 1), -1);
        CHECK.due("no node", ring.steps(4, 1), -1);
        CHECK.due("no place", ring.steps(2, 16), -1);
        CHECK.due("no place", ring.steps(2, -1), -1);
    }

    static void promise23TellsThoseAtWhomItIsAskedOn() {
        NameRing ring = CHECK.settledRing("list 1;" + EIGHT, 8);
        for (int i = 0; i < 7; i++) {
            CHECK.due("route " + i, ring.route(0, 0, i), i + 1);
        }
    }

    static void promise23ThrowsForNoneSuch() {
        NameRing ring = CHECK.settledRing("list 1;" + EIGHT, 8);
        for (int i : new int[] {LEAST, -2, -1, 7, 8, 19, 20, 21, MOST}) {
            CHECK.dueNoSuchElement("route " + i, ring, 0, 0, i);
        }
        // over none
        CHECK.dueNoSuchElement("found at once", ring, 0, 1, 0);
    }

    static void promise23ThrowsForOthersAndOut() {
        NameRing ring = CHECK.settledRing("list 1;" + FOUR, 3);
        CHECK.due("right", ring.route(0, 5, 0), 1);
        for (int node : NO_NODES) {
            CHECK.dueNoSuchElement("node " + node, ring, node, 5, 0);
        }
        CHECK.dueNoSuchElement("OUT", ring, 3, 5, 0);
        for (int place : new int[] {LEAST, -1, 16, MOST}) {
            CHECK.dueNoSuchElement("place " + place, ring, 0, place, 0);
        }
        CHECK.dueNoSuchElement("a new object", new NameRing(), 0, 0, 0);
    }

    static void promise23ThrowsIfNobodyIsFound() {
        NameRing ring = tornRing();
        // d and a would be asked, but nobody is found
        CHECK.dueNoSuchElement("the first", ring, 2, 1, 0);
        CHECK.dueNoSuchElement("the second", ring, 2, 1, 1);
    }

    // ---- promises 24, 25

    static void promise24TellsThoseHeldByAnotherThanTheOwner() {
        NameRing ring = CHECK.ringOf(FOUR + KEYS);
        CHECK.dueDeeds(ring, "b0 p00 p10 p20 p30");
        CHECK.due("all are its own", ring.astray(), 0);
        CHECK.dueDeeds(ring, "j10");
        CHECK.due("k and l are b's", ring.astray(), 3);
        CHECK.dueDeeds(ring, "j30");
        CHECK.due("m is d's", ring.astray(), 7);
        CHECK.dueDeeds(ring, "j20");
        CHECK.due("none is c's", ring.astray(), 7);
        // b is ahead of a then and has k and l; then c, who has none of m and n
        CHECK.dueDeeds(ring, "t1 t2");
        CHECK.due("m alone", ring.astray(), 4);
    }

    static void promise24TellsTenKeys() {
        NameRing ring = CHECK.ringOf("circle 16;node a plain at 0;node b plain at 9;" + tenKeys());
        CHECK.dueDeeds(ring, "b0 p00 p10 p20 p30 p40 p50 p60 p70 p80 p90 j10");
        // all but the one at 0 are b's
        CHECK.due("astray", ring.astray(), 1022);
    }

    static void promise24WhatNobodyHoldsIsNotAstray() {
        CHECK.due("a new object", new NameRing().astray(), 0);
        NameRing ring = CHECK.ringOf(FOUR + KEYS);
        CHECK.due("nobody is IN", ring.astray(), 0);
        CHECK.dueDeeds(ring, "b0");
        CHECK.due("none is held", ring.astray(), 0);
        CHECK.dueDeeds(ring, "p00 x0");
        CHECK.due("none is held", ring.astray(), 0);
        CHECK.due("no keys", CHECK.settledRing(FOUR, 4).astray(), 0);
    }

    static void promise25TellsThoseHeldByNobody() {
        NameRing ring = CHECK.ringOf(FOUR + tenKeys());
        CHECK.due("all", ring.lost(), 1023);
        CHECK.dueDeeds(ring, "b0 p00 p90");
        CHECK.due("all but two", ring.lost(), 510);
        CHECK.dueDeeds(ring, "x0");
        CHECK.due("all again", ring.lost(), 1023);
        CHECK.due("undo", ring.undo(), true);
        CHECK.due("all but two again", ring.lost(), 510);
    }

    static void promise25IsNothingWithoutKeys() {
        CHECK.due("a new object", new NameRing().lost(), 0);
        CHECK.due("no keys", CHECK.ringOf(FOUR).lost(), 0);
        CHECK.due("no circle", CHECK.ringOf("key k at 1;").lost(), 1);
    }

    // ---- promises 26, 27

    private static void dueCycles(NameRing ring, int many, int on, int hang, int broken) {
        CHECK.due("cycles", ring.cycles(0), many);
        CHECK.due("on cycles", ring.cycles(1), on);
        CHECK.due("hangers", ring.cycles(2), hang);
        CHECK.due("broken", ring.cycles(3), broken);
    }

    static void promise26NobodyInHasNone() {
        dueCycles(new NameRing(), 0, 0, 0, 0);
        dueCycles(CHECK.ringOf(FOUR), 0, 0, 0, 0);
    }

    static void promise26OneAloneIsACycle() {
        NameRing ring = CHECK.ringOf(FOUR);
        CHECK.dueDeeds(ring, "b3");
        dueCycles(ring, 1, 8, 0, 0);
    }

    static void promise26AllThatRestAreOne() {
        dueCycles(CHECK.settledRing(FOUR, 4), 1, 15, 0, 0);
        dueCycles(CHECK.settledRing("list 1;" + EIGHT, 8), 1, 255, 0, 0);
    }

    static void promise26HangersComeToOne() {
        dueCycles(starRing(), 1, 1, 14, 0);
        NameRing ring = starRing();
        CHECK.dueDeeds(ring, "t3 t2");
        CHECK.due("c follows d", ring.node(2, 4), 3);
        dueCycles(ring, 1, 1, 14, 0);
    }

    static void promise26BrokenOnesComeToOneWithoutAFirst() {
        dueCycles(tornRing(), 0, 0, 0, 13);
        NameRing ring = tornRing();
        CHECK.dueDeeds(ring, "x0");
        // c follows d, who lists a alone
        dueCycles(ring, 0, 0, 0, 12);
        CHECK.dueDeeds(ring, "x3");
        dueCycles(ring, 0, 0, 0, 4);
    }

    static void promise26ThereMayBeACycleAndBrokenOnes() {
        NameRing ring = CHECK.settledRing("list 1;" + FOUR, 2);
        CHECK.dueDeeds(ring, "j31 t3 j21 t2 x3");
        CHECK.due("c has no FIRST", ring.node(2, 4), -1);
        dueCycles(ring, 1, 3, 0, 4);
        CHECK.due("ordered", ring.ordered(), true);
    }

    static void promise26ThereMayBeTwo() {
        dueCycles(twoCycles(), 2, 29, 2, 0);
    }

    static void promise26IsNoneForAnotherWhat() {
        NameRing ring = CHECK.settledRing(FOUR, 4);
        for (int what : new int[] {LEAST, -2, -1, 4, 5, 32, MOST}) {
            CHECK.due("what " + what, ring.cycles(what), -1);
        }
    }

    static void promise27NobodyInIsNotOrdered() {
        CHECK.due("a new object", new NameRing().ordered(), false);
        CHECK.due("nobody is IN", CHECK.ringOf(FOUR).ordered(), false);
    }

    static void promise27OneAloneIsOrdered() {
        NameRing ring = CHECK.ringOf(FOUR);
        CHECK.dueDeeds(ring, "b2");
        CHECK.due("alone", ring.ordered(), true);
    }

    static void promise27HangersDoNotCount() {
        CHECK.due("a follows itself", starRing().ordered(), true);
        CHECK.due("all", CHECK.settledRing(FOUR, 4).ordered(), true);
    }

    static void promise27WithoutACycleNothingIsOrdered() {
        CHECK.due("torn", tornRing().ordered(), false);
    }

    static void promise27TwoCyclesAreNotOrdered() {
        CHECK.due("two", twoCycles().ordered(), false);
    }

    static void promise27OneThatGoesRoundTwiceIsNotOrdered() {
        NameRing ring = twiceRound();
        dueCycles(ring, 1, 25, 2, 0);
        CHECK.due("twice round", ring.ordered(), false);
        CHECK.due("nor as it is after no round", ring.after(0, 0), 0);
    }

    // ---- promises 28, 29

    static void promise28NobodyAndOneAloneAreNotAmiss() {
        CHECK.due("a new object", new NameRing().amiss(), 0);
        NameRing ring = CHECK.ringOf(FOUR);
        CHECK.due("nobody", ring.amiss(), 0);
        CHECK.dueDeeds(ring, "b1");
        CHECK.due("one alone is its FIRST", ring.amiss(), 0);
        CHECK.due("all that rest", CHECK.settledRing(FOUR, 4).amiss(), 0);
    }

    static void promise28OneThatFollowsItselfIsAmissIfThereIsAnother() {
        NameRing ring = CHECK.ringOf(FOUR);
        CHECK.dueDeeds(ring, "b0 j10");
        CHECK.due("a", ring.amiss(), 1);
        CHECK.due("a, b, c: d alone follows the next one", starRing().amiss(), 7);
    }

    static void promise28OneWithoutAFirstIsAmiss() {
        CHECK.due("a", tornRing().amiss(), 1);
        NameRing ring = CHECK.settledRing(FOUR, 2);
        CHECK.dueDeeds(ring, "x1");
        CHECK.due("alone, but without a FIRST", ring.amiss(), 1);
    }

    static void promise29NobodyAndOneAloneAreNotBehind() {
        CHECK.due("a new object", new NameRing().behind(), 0);
        NameRing ring = CHECK.ringOf(FOUR);
        CHECK.due("nobody", ring.behind(), 0);
        CHECK.dueDeeds(ring, "b1");
        CHECK.due("one alone has none ahead", ring.behind(), 0);
        CHECK.dueDeeds(ring, "j21 t2 t1 x2");
        CHECK.due("one alone with one ahead that is OUT", ring.node(1, 3), 2);
        CHECK.due("one alone", ring.behind(), 0);
    }

    static void promise29OneWithoutOneAheadIsBehind() {
        NameRing ring = CHECK.ringOf(FOUR);
        CHECK.dueDeeds(ring, "b0 j10");
        CHECK.due("both", ring.behind(), 3);
        CHECK.dueDeeds(ring, "t1");
        CHECK.due("b", ring.behind(), 2);
        CHECK.dueDeeds(ring, "t0");
        CHECK.due("none", ring.behind(), 0);
    }

    static void promise29OneWithAnotherAheadIsBehind() {
        NameRing ring = CHECK.settledRing(FOUR, 2);
        CHECK.dueDeeds(ring, "j31");
        // b is ahead of a, d should be; of d nobody is
        CHECK.due("a and d", ring.behind(), 9);
        NameRing torn = CHECK.settledRing(FOUR, 4);
        CHECK.dueDeeds(torn, "x1");
        CHECK.due("the one ahead of c is OUT", torn.behind(), 4);
    }

    // ---- promises 30, 31

    static void promise30NobodyAndOneAloneRestAtOnce() {
        CHECK.due("a new object", new NameRing().rests(), 0);
        NameRing ring = CHECK.ringOf(FOUR);
        CHECK.due("nobody", ring.rests(), 0);
        CHECK.dueDeeds(ring, "b0");
        CHECK.due("alone", ring.rests(), 0);
    }

    static void promise30TellsAfterHowManyTheNextChangesNothing() {
        NameRing ring = CHECK.ringOf(FOUR);
        CHECK.dueDeeds(ring, "b0 j10");
        // a tidies in vain, b is ahead of a; a follows b; the third changes nothing
        CHECK.due("two", ring.rests(), 2);
        CHECK.dueDeeds(ring, "f0 t0 f1 t1");
        CHECK.due("one", ring.rests(), 1);
        CHECK.dueDeeds(ring, "f0 t0 f1 t1");
        CHECK.due("none", ring.rests(), 0);
    }

    static void promise30AFlushChangesSomethingToo() {
        NameRing ring = CHECK.settledRing("list 1;" + FOUR, 2);
        CHECK.dueDeeds(ring, "x1");
        // a forgets b, and can't tidy
        CHECK.due("one", ring.rests(), 1);
    }

    static void promise30AListAloneMayChange() {
        NameRing ring = CHECK.settledRing("list 1;" + FOUR, 3);
        CHECK.dueDeeds(ring, "x1 f2");
        // c is ahead of a and follows it, nobody is ahead of c; a forgets b
        CHECK.due("one", ring.rests(), 1);
        CHECK.dueDeeds(ring, "f0");
        CHECK.due("none", ring.rests(), 0);
    }

    static void promise30TheOneAheadAloneMayChange() {
        NameRing ring = CHECK.ringOf(FOUR);
        CHECK.dueDeeds(ring, "b0 j10 t1 x1");
        CHECK.dueList(ring, 0, 0);
        CHECK.due("b is ahead of a", ring.node(0, 3), 1);
        CHECK.due("one", ring.rests(), 1);
    }

    static void promise30FingersThatAreOutChangeToo() {
        NameRing ring = CHECK.ringOf(FOUR);
        CHECK.dueDeeds(ring, "b0 j10 t1 t0 m0 x1 f0");
        CHECK.due("none is left", ring.rests(), 0);
        ring = CHECK.settledRing("list 1;" + FOUR, 4);
        // a's LIST is b, its FINGER 3 alone is c
        CHECK.dueDeeds(ring, "i03 x2 f1 f3");
        CHECK.due("the FINGER goes", ring.rests(), 1);
        CHECK.dueDeeds(ring, "f0");
        CHECK.due("all rest", ring.rests(), 0);
    }

    /** One that is gone wanders from LIST to LIST for ever. */
    static void promise30IsNoneIfTheyNeverRest() {
        NameRing ring = CHECK.ringOf("list 3;circle 16;node a plain at 3;node b plain at 8;node c plain at 1;node d plain at 15;"
                + "node e plain at 14;node f plain at 2;");
        CHECK.dueDeeds(ring, "b1 j41 t4 t1 j31 t3 t4 t3 x3 j54 t5");
        CHECK.due("never", ring.rests(), -1);
    }

    static void promise30LeavesAllAsItIs() {
        NameRing ring = tornRing();
        CHECK.dueDeeds(ring, "p22");
        CHECK.due("d holds m", ring.key(2, 1), 3);
        String before = Check.stateOf(ring, 4, 4);
        CHECK.due("rests", ring.rests() > 0, true);
        CHECK.dueText("all", Check.stateOf(ring, 4, 4), before);
        CHECK.due("undo", ring.undo(), true);
        CHECK.due("m is lost again", ring.key(2, 1), -1);
    }

    static void promise31TakesRounds0To30() {
        NameRing ring = CHECK.settledRing(FOUR, 4);
        for (int rounds = 0; rounds <= 30; rounds++) {
            CHECK.due("after " + rounds, ring.after(rounds, 0), 1);
        }
        for (int rounds : new int[] {LEAST, -2, -1, 31, 32, MOST}) {
            for (int what = 0; what < 4; what++) {
                CHECK.due("after " + rounds, ring.after(rounds, what), -1);
            }
        }
    }

    static void promise31IsNoneForAnotherWhat() {
        NameRing ring = CHECK.settledRing(FOUR, 4);
        for (int what : new int[] {LEAST, -2, -1, 4, 5, 32, MOST}) {
            CHECK.due("what " + what, ring.after(0, what), -1);
        }
    }

    static void promise31AfterNoneIsNow() {
        NameRing ring = starRing();
        CHECK.dueDeeds(ring, "p00");
        CHECK.due("ordered", ring.after(0, 0), 1);
        CHECK.due("amiss", ring.after(0, 1), 7);
        CHECK.due("behind", ring.after(0, 2), 15);
        CHECK.due("astray", ring.after(0, 3), 1);
        CHECK.due("torn", tornRing().after(0, 0), 0);
    }

    static void promise31EachByNumbersFlushesAndTidies() {
        NameRing ring = CHECK.ringOf(FOUR + KEYS);
        CHECK.dueDeeds(ring, "b0 p00 p20 j10");
        // a goes first and knows nobody else; b is ahead of a then and has k; m stays
        CHECK.due("amiss", ring.after(1, 1), 1);
        CHECK.due("behind", ring.after(1, 2), 2);
        CHECK.due("astray", ring.after(1, 3), 0);
        CHECK.due("astray now", ring.after(0, 3), 1);
        CHECK.due("amiss", ring.after(2, 1), 0);
        CHECK.due("behind", ring.after(2, 2), 0);
        // with b's number below a's one is enough
        NameRing other = CHECK.ringOf("circle 16;node b plain at 4;node a plain at 0;");
        CHECK.dueDeeds(other, "b1 j01");
        CHECK.due("amiss", other.after(1, 1), 0);
        CHECK.due("behind", other.after(1, 2), 0);
    }

    static void promise31NobodyInHasNothing() {
        for (int what = 0; what < 4; what++) {
            CHECK.due("a new object", new NameRing().after(30, what), 0);
            CHECK.due("nobody", CHECK.ringOf(FOUR + KEYS).after(30, what), 0);
        }
    }

    static void promise31LeavesAllAsItIs() {
        NameRing ring = tornRing();
        String before = Check.stateOf(ring, 4, 4);
        CHECK.due("after 30", ring.after(30, 0), 0);
        CHECK.dueText("all", Check.stateOf(ring, 4, 4), before);
    }

    // ---- promise 32

    static void promise32LeavesOutThoseAsFarAsTheCircle() {
        int[] circles = {8, 9, 16, 17, 32, 33, 64, 65, 128, 129, 256};
        int[] due = {7, 15, 15, 31, 31, 63, 63, 127, 127, 255, 255};
        for (int i = 0; i < circles.length; i++) {
            NameRing ring = CHECK.ringOf("circle " + circles[i] + ";node a plain at 5;");
            CHECK.dueDeeds(ring, "b0");
            CHECK.due("none is wrong, too, of " + circles[i], ring.wrongs(0), due[i]);
            CHECK.dueDeeds(ring, "m0");
            CHECK.due("mended of " + circles[i], ring.wrongs(0), 0);
        }
    }

    static void promise32TellsThoseThatAreAnotherOne() {
        NameRing ring = CHECK.settledRing(FOUR, 4);
        CHECK.dueDeeds(ring, "m0");
        CHECK.due("none", ring.wrongs(0), 0);
        CHECK.dueDeeds(ring, "x1");
        CHECK.due("those that are b", ring.wrongs(0), 7);
        CHECK.dueDeeds(ring, "f0");
        CHECK.due("none there", ring.wrongs(0), 7);
        CHECK.dueDeeds(ring, "t0 m0");
        CHECK.due("none", ring.wrongs(0), 0);
        CHECK.dueDeeds(ring, "j10");
        // b is the one at 4
        CHECK.due("those that should be b", ring.wrongs(0), 7);
    }

    static void promise32ABlindOneHasAllWrong() {
        NameRing ring = CHECK.ringOf("circle 16;node a blind at 0;");
        CHECK.dueDeeds(ring, "b0");
        CHECK.due("all four", ring.wrongs(0), 15);
    }

    static void promise32IsNoneForOthersAndOut() {
        NameRing ring = CHECK.settledRing(FOUR, 3);
        for (int node : NO_NODES) {
            CHECK.due("node " + node, ring.wrongs(node), -1);
        }
        CHECK.due("OUT", ring.wrongs(3), -1);
        CHECK.due("a new object", new NameRing().wrongs(0), -1);
    }

    // ---- promises 33, 40

    static void promise33TellsTheMostStepsToWhereAnyKeyLies() {
        NameRing ring = CHECK.settledRing("list 1;" + EIGHT + tenKeys(), 8);
        CHECK.due("to 0, its own place", ring.far(0), 7);
        // from b on 9 is over c, d, e; 0 over all to h; 2 over all
        CHECK.due("to 2, its own place", ring.far(1), 7);
        // from g, at 12, 9 is over h, a, b, c, d, e
        CHECK.due("to 9", ring.far(6), 6);
    }

    static void promise33Is0IfNoneIsFound() {
        NameRing ring = tornRing();
        CHECK.due("a finds nobody", ring.far(0), 0);
        CHECK.due("of one alone all are found at once", starRing().far(0), 0);
        CHECK.due("without keys", CHECK.settledRing(FOUR, 4).far(0), 0);
    }

    static void promise33LeavesOutThoseToWhichNobodyIsFound() {
        NameRing ring = tornRing();
        // n over d; k and l would go over d and a
        CHECK.due("c", ring.far(2), 1);
        CHECK.due("d", ring.far(3), 0);
    }

    static void promise33IsNoneForOthersAndOut() {
        NameRing ring = CHECK.settledRing(FOUR + KEYS, 3);
        for (int node : NO_NODES) {
            CHECK.due("node " + node, ring.far(node), -1);
        }
        CHECK.due("OUT", ring.far(3), -1);
        CHECK.due("a new object", new NameRing().far(0), -1);
    }

    static void promise40TellsAllStepsToWhereAllKeysLie() {
        NameRing ring = CHECK.settledRing("list 1;" + EIGHT + tenKeys(), 8);
        // to 0 .. 9: 7, 0, 0, 1, 1, 2, 2, 3, 3, 4
        CHECK.due("a", ring.toil(0), 23);
        CHECK.due("two keys at one place", CHECK.settledRing("list 1;" + FOUR + "key k at 5;key l at 5;", 4).toil(0), 2);
    }

    static void promise40LeavesOutThoseToWhichNobodyIsFound() {
        NameRing ring = tornRing();
        CHECK.due("a", ring.toil(0), 0);
        // m at once, n over d
        CHECK.due("c", ring.toil(2), 1);
        CHECK.due("without keys", CHECK.settledRing(FOUR, 4).toil(0), 0);
    }

    static void promise40IsNoneForOthersAndOut() {
        NameRing ring = CHECK.settledRing(FOUR + KEYS, 3);
        for (int node : NO_NODES) {
            CHECK.due("node " + node, ring.toil(node), -1);
        }
        CHECK.due("OUT", ring.toil(3), -1);
        CHECK.due("a new object", new NameRing().toil(0), -1);
    }

    // ---- promises 34, 39

    static void promise34OfOneAloneItIsTheCircle() {
        for (int circle : new int[] {8, 100, 256}) {
            NameRing ring = CHECK.ringOf("circle " + circle + ";node a plain at 5;node b plain at 6;");
            CHECK.dueDeeds(ring, "b0");
            CHECK.due("alone in " + circle, ring.arc(0), circle);
        }
    }

    static void promise34IsTheWayFromTheNearestAheadThatIsIn() {
        NameRing ring = CHECK.ringOf("circle 16;node a plain at 15;node b plain at 0;node c plain at 9;node d plain at 8;");
        CHECK.dueDeeds(ring, "b0 j10 j20");
        CHECK.due("b from a", ring.arc(1), 1);
        CHECK.due("c from b", ring.arc(2), 9);
        CHECK.due("a from c", ring.arc(0), 6);
        CHECK.dueDeeds(ring, "j30");
        CHECK.due("c from d", ring.arc(2), 1);
        CHECK.dueDeeds(ring, "x0");
        CHECK.due("b from c", ring.arc(1), 7);
    }

    static void promise34IsNoneForOthersAndOut() {
        NameRing ring = CHECK.settledRing(FOUR, 3);
        for (int node : NO_NODES) {
            CHECK.due("node " + node, ring.arc(node), -1);
        }
        CHECK.due("OUT", ring.arc(3), -1);
        CHECK.due("a new object", new NameRing().arc(0), -1);
    }

    static void promise39IsNoneIfNobodyIsIn() {
        CHECK.due("a new object", new NameRing().widest(), -1);
        CHECK.due("nobody", CHECK.ringOf(FOUR).widest(), -1);
    }

    static void promise39IsOneAlone() {
        NameRing ring = CHECK.ringOf(FOUR);
        CHECK.dueDeeds(ring, "b3");
        CHECK.due("alone", ring.widest(), 3);
    }

    static void promise39OfEqualOnesIsTheFirst() {
        CHECK.due("all", CHECK.settledRing(FOUR, 4).widest(), 0);
        NameRing ring = CHECK.ringOf(FOUR);
        CHECK.dueDeeds(ring, "b3 j13");
        CHECK.due("b and d", ring.widest(), 1);
    }

    static void promise39OfEqualOnesIsTheFirstIfAllArcsAre1() {
        NameRing ring = CHECK.ringOf("circle 8;node a plain at 3;node b plain at 4;node c plain at 5;node d plain at 6;node e plain at 7;"
                + "node f plain at 0;node g plain at 1;node h plain at 2;");
        CHECK.dueDeeds(ring, "b7 j07 j17 j27 j37 j47 j57");
        CHECK.due("h, from f", ring.widest(), 7);
        CHECK.dueDeeds(ring, "j67");
        CHECK.due("a", ring.widest(), 0);
    }

    static void promise39IsTheGreatest() {
        NameRing ring = CHECK.settledRing(FOUR, 4);
        CHECK.dueDeeds(ring, "x1");
        CHECK.due("c", ring.widest(), 2);
        CHECK.dueDeeds(ring, "x2");
        CHECK.due("d", ring.widest(), 3);
    }

    // ---- promise 35

    static void promise35TellsWhatItOwns() {
        NameRing ring = CHECK.settledRing(FOUR + KEYS, 4);
        int[] due = {8, 3, 0, 4};
        for (int node = 0; node < 4; node++) {
            CHECK.due("load " + node, ring.load(node), due[node]);
        }
        CHECK.dueDeeds(ring, "x1");
        CHECK.due("c has b's", ring.load(2), 3);
    }

    static void promise35OneAloneOwnsAll() {
        NameRing ring = CHECK.ringOf(FOUR + tenKeys());
        CHECK.dueDeeds(ring, "b2");
        CHECK.due("all, though it holds none", ring.load(2), 1023);
        CHECK.due("without keys", CHECK.settledRing(FOUR, 2).load(0), 0);
    }

    static void promise35IsNoneForOthersAndOut() {
        NameRing ring = CHECK.settledRing(FOUR + KEYS, 3);
        for (int node : NO_NODES) {
            CHECK.due("node " + node, ring.load(node), -1);
        }
        CHECK.due("OUT", ring.load(3), -1);
        CHECK.due("a new object", new NameRing().load(0), -1);
    }

    // ---- promise 36

    static void promise36TellsThoseInWhoseListItIs() {
        NameRing ring = CHECK.settledRing("list 2;" + FOUR, 4);
        CHECK.due("a", ring.hosts(0), 12);
        CHECK.due("c", ring.hosts(2), 3);
    }

    static void promise36OfOneThatIsOutToo() {
        NameRing ring = CHECK.settledRing("list 2;" + FOUR, 4);
        CHECK.dueDeeds(ring, "x0");
        CHECK.due("c and d list it still", ring.hosts(0), 12);
        CHECK.dueDeeds(ring, "x3");
        CHECK.due("d is OUT", ring.hosts(0), 4);
        CHECK.dueDeeds(ring, "f2");
        CHECK.due("c has forgotten it", ring.hosts(0), 0);
    }

    static void promise36OneAloneIsItsHost() {
        NameRing ring = CHECK.ringOf(FOUR);
        CHECK.due("nobody is IN", ring.hosts(0), 0);
        CHECK.dueDeeds(ring, "b3");
        CHECK.due("itself", ring.hosts(3), 8);
    }

    static void promise36FingersAndTheOneAheadAreNoHosts() {
        NameRing ring = CHECK.settledRing("list 1;" + FOUR, 4);
        CHECK.dueDeeds(ring, "m0 m1 m2 m3");
        CHECK.due("d alone", ring.hosts(0), 8);
    }

    static void promise36IsNoneForOthers() {
        NameRing ring = CHECK.settledRing(FOUR, 3);
        for (int node : NO_NODES) {
            CHECK.due("node " + node, ring.hosts(node), -1);
        }
        CHECK.due("a new object", new NameRing().hosts(0), -1);
    }

    // ---- promise 37

    static void promise37OneAloneReachesItself() {
        NameRing ring = CHECK.ringOf(FOUR);
        CHECK.dueDeeds(ring, "b3");
        CHECK.due("itself", ring.reaches(3), 8);
    }

    static void promise37OneThatKnowsNobodyReachesItself() {
        NameRing ring = CHECK.settledRing(FOUR, 2);
        CHECK.dueDeeds(ring, "x1 f0");
        CHECK.due("itself", ring.reaches(0), 1);
    }

    static void promise37KnowsByTheList() {
        NameRing ring = starRing();
        CHECK.due("a knows itself", ring.reaches(0), 1);
        CHECK.due("d knows a", ring.reaches(3), 9);
    }

    static void promise37KnowsByTheOneAhead() {
        NameRing ring = starRing();
        CHECK.dueDeeds(ring, "t3");
        CHECK.due("a knows d", ring.reaches(0), 9);
        CHECK.due("b knows d over a", ring.reaches(1), 11);
    }

    static void promise37KnowsByFingers() {
        NameRing ring = CHECK.settledRing("list 1;" + FOUR, 4);
        CHECK.dueDeeds(ring, "i03 x1 x3");
        // b, its LIST, and d, ahead of it, are OUT
        CHECK.due("a knows c", ring.reaches(0), 5);
        CHECK.due("c knows nobody", ring.reaches(2), 4);
    }

    static void promise37KnowsByTheFirstAndTheLastFinger() {
        NameRing ring = CHECK.settledRing("list 1;circle 16;node a plain at 0;node b plain at 8;node c plain at 4;node d plain at 12;", 2);
        CHECK.dueDeeds(ring, "i00 j31 t3 j20 t2 t0 x2 x3");
        CHECK.due("d, ahead of a, is OUT; so is c, its LIST", ring.reaches(0), 3);
        ring = CHECK.settledRing("list 1;circle 256;node a plain at 0;node b plain at 10;node c plain at 200;node d plain at 220;", 4);
        CHECK.dueDeeds(ring, "i07 x1 x3");
        CHECK.due("c", ring.reaches(0), 5);
    }

    static void promise37GoesOnAndOn() {
        NameRing ring = CHECK.settledRing("list 1;" + EIGHT, 8);
        for (int node = 0; node < 8; node++) {
            CHECK.due("all", ring.reaches(node), 255);
        }
        CHECK.dueDeeds(ring, "x1 x6");
        // a and h, and those from c to f, know their neighbours alone
        CHECK.due("a", ring.reaches(0), 129);
        CHECK.due("h", ring.reaches(7), 129);
        CHECK.due("c", ring.reaches(2), 60);
        CHECK.due("f", ring.reaches(5), 60);
    }

    static void promise37ThoseThatAreOutAreNotKnown() {
        NameRing ring = tornRing();
        CHECK.due("a knows d by the one ahead, d c likewise", ring.reaches(0), 13);
        CHECK.dueDeeds(ring, "x3");
        CHECK.due("a", ring.reaches(0), 1);
        CHECK.due("c", ring.reaches(2), 4);
    }

    static void promise37IsNoneForOthersAndOut() {
        NameRing ring = CHECK.settledRing(FOUR, 3);
        for (int node : NO_NODES) {
            CHECK.due("node " + node, ring.reaches(node), -1);
        }
        CHECK.due("OUT", ring.reaches(3), -1);
        CHECK.due("a new object", new NameRing().reaches(0), -1);
    }

    // ---- promise 38

    static void promise38TellsThoseInByTheWay() {
        NameRing ring = CHECK.settledRing(FOUR + KEYS, 4);
        int[][] due = {{1, 2, 3, 0}, {1, 2, 3, 0}, {3, 0, 1, 2}, {0, 1, 2, 3}};
        for (int key = 0; key < 4; key++) {
            for (int i = 0; i < 4; i++) {
                CHECK.due("heir " + i + " of " + key, ring.heirs(key, i), due[key][i]);
            }
        }
    }

    static void promise38TheOneAtWhichItLiesIsTheFirst() {
        NameRing ring = CHECK.settledRing(FOUR + "key k at 12;", 4);
        int[] due = {3, 0, 1, 2};
        for (int i = 0; i < 4; i++) {
            CHECK.due("heir " + i, ring.heirs(0, i), due[i]);
        }
    }

    static void promise38IsNoneForNoneSuch() {
        NameRing ring = CHECK.settledRing(FOUR + KEYS, 3);
        for (int i : new int[] {LEAST, -2, -1, 3, 4, 8, 32, MOST}) {
            CHECK.due("heir " + i, ring.heirs(0, i), -1);
        }
        CHECK.due("the last", ring.heirs(0, 2), 0);
        CHECK.due("nobody is IN", CHECK.ringOf(FOUR + KEYS).heirs(0, 0), -1);
    }

    static void promise38IsNoneForOthers() {
        NameRing ring = CHECK.settledRing(FOUR + KEYS, 4);
        for (int key : new int[] {LEAST, -2, -1, 4, 5, 9, 10, 11, 32, MOST}) {
            CHECK.due("key " + key, ring.heirs(key, 0), -1);
        }
        CHECK.due("a new object", new NameRing().heirs(0, 0), -1);
        CHECK.due("no circle", CHECK.ringOf("key k at 3;").heirs(0, 0), -1);
    }

    // ---- promise 41

    private static void dueRisks(NameRing ring, int one, int two, int three) {
        CHECK.due("risk 1", ring.risk(1), one);
        CHECK.due("risk 2", ring.risk(2), two);
        CHECK.due("risk 3", ring.risk(3), three);
    }

    static void promise41CountsSetsOf1To3() {
        // of 56 sets of three 16 have no two that are neighbours
        dueRisks(CHECK.settledRing("list 1;" + EIGHT, 8), 8, 28, 56);
        dueRisks(CHECK.settledRing("list 2;" + EIGHT, 8), 0, 8, 40);
        dueRisks(CHECK.settledRing("list 3;" + EIGHT, 8), 0, 0, 8);
        dueRisks(CHECK.settledRing("list 4;" + EIGHT, 8), 0, 0, 0);
    }

    static void promise41OnlyOthersCount() {
        NameRing ring = CHECK.ringOf(FOUR);
        dueRisks(ring, 0, 0, 0);
        CHECK.dueDeeds(ring, "b0");
        dueRisks(ring, 0, 0, 0);
        CHECK.dueDeeds(ring, "j10");
        // without a b has no FIRST; without b a has itself; without both there is nobody else
        dueRisks(ring, 1, 0, 0);
    }

    static void promise41OneThatHasNoFirstNowWouldHaveNone() {
        dueRisks(tornRing(), 3, 3, 0);
    }

    static void promise41IsNoneForOthers() {
        NameRing ring = CHECK.settledRing(FOUR, 4);
        for (int many : new int[] {LEAST, -2, -1, 0, 4, 5, 8, 32, MOST}) {
            CHECK.due("risk " + many, ring.risk(many), -1);
        }
        CHECK.due("a new object", new NameRing().risk(1), 0);
    }

    static void promise41LeavesAllAsItIs() {
        NameRing ring = CHECK.settledRing(FOUR, 4);
        ring.risk(3);
        CHECK.due("IN", ring.count(4), 15);
    }

    // ---- promise 42

    static void promise42TellsHowManyWouldHaveAnotherOwner() {
        NameRing ring = CHECK.settledRing(FOUR + KEYS, 4);
        int[] due = {1, 2, 0, 1};
        for (int node = 0; node < 4; node++) {
            CHECK.due("IN now " + node, ring.moves(node), due[node]);
        }
        CHECK.dueDeeds(ring, "x1");
        CHECK.due("OUT now", ring.moves(1), 2);
        CHECK.due("c has b's now", ring.moves(2), 2);
        CHECK.due("all is as it was", ring.count(4), 13);
    }

    static void promise42NobodyForSomebodyIsAnotherOneToo() {
        NameRing ring = CHECK.ringOf(FOUR + tenKeys());
        CHECK.due("the first", ring.moves(3), 10);
        CHECK.dueDeeds(ring, "b3");
        CHECK.due("the last", ring.moves(3), 10);
        CHECK.due("without keys", CHECK.ringOf(FOUR).moves(0), 0);
    }

    static void promise42IsNoneForOthers() {
        NameRing ring = CHECK.settledRing(FOUR + KEYS, 3);
        for (int node : NO_NODES) {
            CHECK.due("node " + node, ring.moves(node), -1);
        }
        CHECK.due("a new object", new NameRing().moves(0), -1);
    }

    // ---- promises 43 to 45

    static void promise43TakesPlacesOfTheCircle() {
        NameRing ring = CHECK.settledRing(FOUR, 2);
        CHECK.due("the first", ring.see(0, 0, true), true);
        CHECK.due("the last", ring.see(15, 0, true), true);
        for (int place : new int[] {LEAST, -2, -1, 16, 17, 256, MOST}) {
            CHECK.due("place " + place, ring.see(place, 0, true), false);
        }
        CHECK.due("two", ring.count(7), 2);
        CHECK.due("no circle", new NameRing().see(0, 0, true), false);
        CHECK.due("no circle", CHECK.ringOf("key k at 3;").see(0, 0, true), false);
    }

    static void promise43TakesSteps0To20() {
        NameRing ring = CHECK.settledRing(FOUR, 2);
        CHECK.due("0", ring.see(0, 0, false), true);
        CHECK.due("20", ring.see(0, 20, true), true);
        for (int steps : new int[] {LEAST, -2, -1, 21, 22, 32, MOST}) {
            CHECK.due("steps " + steps, ring.see(0, steps, true), false);
            CHECK.due("steps " + steps, ring.see(0, steps, false), false);
        }
        CHECK.due("two", ring.count(7), 2);
    }

    static void promise43Takes8AndNoNinth() {
        NameRing ring = CHECK.ringOf("circle 8;");
        for (int i = 0; i < 8; i++) {
            CHECK.due("see " + i, ring.see(i, 0, true), true);
            CHECK.due("seen", ring.count(7), i + 1);
        }
        CHECK.due("a ninth", ring.see(0, 0, true), false);
        CHECK.due("seen", ring.count(7), 8);
        CHECK.due("ring", Check.tellRing(ring, "circle 8;"), 0);
        CHECK.due("a new ring has seen nothing", ring.see(0, 0, true), true);
    }

    static void promise43TheSameMayBeSeenTwice() {
        NameRing ring = CHECK.settledRing(FOUR, 2);
        CHECK.due("once", ring.see(3, 1, true), true);
        CHECK.due("twice", ring.see(3, 1, true), true);
        CHECK.due("two", ring.count(7), 2);
    }

    static void promise44NothingSeenIsAllThatAreIn() {
        CHECK.due("a new object", new NameRing().who(), 0);
        NameRing ring = CHECK.ringOf(FOUR);
        CHECK.due("nobody", ring.who(), 0);
        CHECK.dueDeeds(ring, "b2");
        CHECK.due("alone", ring.who(), 4);
        CHECK.due("all", CHECK.settledRing(FOUR, 4).who(), 15);
    }

    static void promise44OverSoManyOrMoreOrOverFewer() {
        // to 1, list 1: a 0, d 1, c 2, b 3
        int[] more = {15, 14, 6, 2, 0};
        for (int steps = 0; steps < 5; steps++) {
            NameRing ring = CHECK.settledRing("list 1;" + FOUR, 4);
            CHECK.due("see", ring.see(1, steps, true), true);
            CHECK.due("or more than " + steps, ring.who(), more[steps]);
            ring = CHECK.settledRing("list 1;" + FOUR, 4);
            CHECK.due("see", ring.see(1, steps, false), true);
            CHECK.due("fewer than " + steps, ring.who(), 15 - more[steps]);
        }
        NameRing ring = CHECK.settledRing("list 1;" + FOUR, 4);
        CHECK.due("see", ring.see(1, 20, false), true);
        CHECK.due("fewer than 20", ring.who(), 15);
        CHECK.due("see", ring.see(1, 20, true), true);
        CHECK.due("and 20 or more", ring.who(), 0);
    }

    static void promise44AllThatIsSeenIsSo() {
        NameRing ring = CHECK.settledRing("list 1;" + FOUR, 4);
        ring.see(1, 1, true);
        ring.see(1, 3, false);
        CHECK.due("c, d", ring.who(), 12);
        ring.see(13, 1, true);
        CHECK.due("c", ring.who(), 4);
    }

    static void promise44NotFoundIsNeither() {
        NameRing ring = tornRing();
        ring.see(1, 0, true);
        CHECK.due("or more", ring.who(), 0);
        ring = tornRing();
        ring.see(1, 20, false);
        CHECK.due("fewer", ring.who(), 0);
        ring = tornRing();
        ring.see(13, 0, true);
        CHECK.due("c and d find 13, a does not", ring.who(), 12);
    }

    static void promise44IsAsAllIsWhenItIsAsked() {
        NameRing ring = CHECK.settledRing("list 1;" + FOUR, 4);
        ring.see(13, 1, false);
        CHECK.due("d", ring.who(), 8);
        CHECK.dueDeeds(ring, "x3");
        CHECK.due("nobody", ring.who(), 0);
        CHECK.due("undo", ring.undo(), true);
        CHECK.dueDeeds(ring, "x2");
        CHECK.due("d still", ring.who(), 8);
    }

    static void promise45IsNoneIfThereIsNobodyOrOne() {
        CHECK.due("a new object", new NameRing().ask(), -1);
        NameRing ring = CHECK.ringOf(FOUR);
        CHECK.due("nobody", ring.ask(), -1);
        CHECK.dueDeeds(ring, "b0");
        CHECK.due("one alone", ring.ask(), -1);
        ring = CHECK.settledRing("list 1;" + FOUR, 4);
        ring.see(1, 3, true);
        CHECK.due("b alone is left", ring.who(), 2);
        CHECK.due("one", ring.ask(), -1);
        ring.see(1, 4, true);
        CHECK.due("nobody is left", ring.who(), 0);
        CHECK.due("nobody", ring.ask(), -1);
    }

    static void promise45IsNoneIfNonePartsThem() {
        NameRing ring = CHECK.settledRing("list 1;" + FOUR, 4);
        CHECK.dueDeeds(ring, "x1 x3");
        CHECK.due("a and c find nobody ever", ring.who(), 5);
        CHECK.due("none", ring.ask(), -1);
    }

    static void promise45IsTheFirstWhoseGreatestNumberIsTheLeast() {
        NameRing ring = starRing();
        // to 0: all 0; to 1 .. 4: a 0, the others 1; to 5: a and b 0, c and d 1
        CHECK.due("two of four", ring.ask(), 5);
        NameRing three = CHECK.ringOf("list 1;" + FOUR);
        CHECK.dueDeeds(three, "b0 j10 j20");
        CHECK.due("two of three", three.ask(), 1);
    }

    static void promise45MayBe0AndTheLastPlace() {
        CHECK.due("each over another number", CHECK.settledRing("list 1;" + FOUR, 4).ask(), 0);
        NameRing ring = CHECK.ringOf("circle 8;node a plain at 0;node b plain at 7;");
        CHECK.dueDeeds(ring, "b1 j01");
        // b finds all at once; a, at 0, finds 0 alone over b
        CHECK.due("the first", ring.ask(), 0);
        ring = CHECK.ringOf("circle 8;node a plain at 7;node b plain at 6;");
        CHECK.dueDeeds(ring, "b1 j01");
        CHECK.due("b's FIRST is b: a finds 7 alone over b", ring.ask(), 7);
    }

    static void promise45NotFoundIsANumberOfItsOwn() {
        NameRing ring = tornRing();
        // to 0: c over d, d at once, a not at all
        CHECK.due("each for itself", ring.ask(), 0);
        ring = CHECK.settledRing("list 1;circle 16;node a plain at 8;node b plain at 12;node c plain at 0;node d plain at 4;", 4);
        CHECK.dueDeeds(ring, "x1");
        // to 0 none of a, c and d; to 1 .. 4 c alone; to 5 c over d, d at once, a not at all
        CHECK.due("each for itself, behind those that are not found", ring.ask(), 5);
    }

    // ---- promise 46

    private static final String TWO = "circle 16;node a plain at 0;node b plain at 8;";

    private static void dueDrives(NameRing ring, int seed, int many, int could, int in, int amiss) {
        String call = "drives " + seed + " " + many;
        CHECK.due(call + " 0", ring.drives(seed, many, 0), could);
        CHECK.due(call + " 1", ring.drives(seed, many, 1), in);
        CHECK.due(call + " 2", ring.drives(seed, many, 2), amiss);
    }

    static void promise46DrivesEachKindOfDeed() {
        // by the first DRAWS these are: a deed, b, a (the third one is of JOIN alone)
        int begin = 52;
        int join = 23;
        int leave = 13;
        int fail = 36;
        int tidy = 35;
        int tidyToo = 58;
        int flush = 6;
        NameRing nobody = CHECK.ringOf(TWO);
        for (int seed : new int[] {join, leave, fail, tidy, tidyToo, flush}) {
            dueDrives(nobody, seed, 1, 0, 0, 0);
        }
        dueDrives(nobody, begin, 1, 1, 1, 0);
        NameRing one = CHECK.ringOf(TWO);
        CHECK.dueDeeds(one, "b0");
        for (int seed : new int[] {begin, leave, fail, tidy, tidyToo, flush}) {
            dueDrives(one, seed, 1, 0, 1, 0);
        }
        dueDrives(one, join, 1, 1, 2, 1);
        NameRing both = CHECK.settledRing(TWO, 2);
        dueDrives(both, begin, 1, 0, 2, 0);
        dueDrives(both, join, 1, 0, 2, 0);
        dueDrives(both, leave, 1, 1, 1, 1);
        dueDrives(both, fail, 1, 1, 1, 1);
        dueDrives(both, tidy, 1, 1, 2, 0);
        dueDrives(both, tidyToo, 1, 1, 2, 0);
        dueDrives(both, flush, 1, 1, 2, 0);
    }

    static void promise46ATidyAndAFlushChangeThings() {
        NameRing ring = CHECK.ringOf(TWO);
        CHECK.dueDeeds(ring, "b1 j01 t0");
        CHECK.due("b follows itself", ring.amiss(), 2);
        dueDrives(ring, 35, 1, 1, 2, 0);
        dueDrives(ring, 58, 1, 1, 2, 0);
        dueDrives(ring, 6, 1, 1, 2, 2);
    }

    static void promise46DrawsTheFingerBehindTheOthers() {
        // by 29: FIX of b's 1; by 5: of b's 5, which is 32
        NameRing ring = CHECK.settledRing(TWO, 2);
        dueDrives(ring, 29, 1, 1, 2, 0);
        dueDrives(ring, 5, 1, 0, 2, 0);
        dueDrives(CHECK.settledRing("circle 32;node a plain at 0;node b plain at 8;", 2), 5, 1, 0, 2, 0);
        dueDrives(CHECK.settledRing("circle 33;node a plain at 0;node b plain at 8;", 2), 5, 1, 1, 2, 0);
        // by 38: FIX of b's 3, then FAIL of a
        dueDrives(ring, 38, 2, 2, 1, 2);
    }

    static void promise46DrawsTheFingerEvenIfItCantBe() {
        // by 142: FIX of b's 7, who is OUT; then BEGIN of b
        dueDrives(CHECK.ringOf(TWO), 142, 1, 0, 0, 0);
        dueDrives(CHECK.ringOf(TWO), 142, 2, 1, 1, 0);
    }

    static void promise46TakesSeeds0To9999() {
        NameRing ring = CHECK.ringOf(TWO);
        // by 0: BEGIN of a, TIDY of a; by 9999: JOIN of b by itself, LEAVE of b, FAIL of b
        dueDrives(ring, 0, 1, 1, 1, 0);
        dueDrives(ring, 0, 2, 2, 1, 0);
        dueDrives(ring, 9999, 3, 0, 0, 0);
        for (int seed : new int[] {LEAST, -2, -1, 10000, 10001, MOST}) {
            dueDrives(ring, seed, 1, -1, -1, -1);
        }
    }

    static void promise46Takes1To99() {
        NameRing ring = CHECK.ringOf("circle 16;node a plain at 3;");
        dueDrives(ring, 1, 99, 29, 1, 0);
        for (int many : new int[] {LEAST, -2, -1, 0, 100, 101, MOST}) {
            dueDrives(ring, 1, many, -1, -1, -1);
        }
    }

    static void promise46IsNoneForAnotherWhat() {
        NameRing ring = CHECK.ringOf(TWO);
        for (int what : new int[] {LEAST, -2, -1, 3, 4, 32, MOST}) {
            CHECK.due("what " + what, ring.drives(1, 1, what), -1);
        }
    }

    static void promise46DrivesNothingWithoutACircleAndNodes() {
        dueDrives(new NameRing(), 0, 99, 0, 0, 0);
        dueDrives(CHECK.ringOf("circle 16;"), 0, 99, 0, 0, 0);
        dueDrives(CHECK.ringOf("key k at 3;"), 0, 99, 0, 0, 0);
        CHECK.due("another what, too", new NameRing().drives(0, 99, 3), -1);
    }

    static void promise46LeavesAllAsItWasAhead() {
        NameRing ring = CHECK.settledRing(FOUR + KEYS, 4);
        CHECK.dueDeeds(ring, "p00 p10 m0");
        ring.see(3, 1, true);
        String before = Check.stateOf(ring, 4, 4);
        int who = ring.who();
        for (int seed = 0; seed < 20; seed++) {
            CHECK.due("drives", ring.drives(seed, 99, 0) > 0, true);
        }
        CHECK.dueText("all", Check.stateOf(ring, 4, 4), before);
        CHECK.due("what is seen", ring.count(7), 1);
        CHECK.due("who", ring.who(), who);
        CHECK.due("undo", ring.undo(), true);
        CHECK.due("the mending is undone", ring.finger(0, 0), -1);
    }

    static void promise46BeginsAnewWithEachSeed() {
        NameRing ring = CHECK.ringOf(FOUR);
        int first = ring.drives(77, 50, 0);
        ring.drives(78, 33, 1);
        CHECK.due("again", ring.drives(77, 50, 0), first);
    }

    // ---- promise 48

    static void promise48IsNoneForAnotherWhat() {
        NameRing ring = CHECK.ringOf(FOUR);
        for (int what : new int[] {LEAST, -2, -1, 10, 11, 32, MOST}) {
            CHECK.due("count " + what, ring.count(what), -1);
        }
    }

    static void promise48TellsAllThatIsCounted() {
        NameRing ring = CHECK.settledRing("list 4;" + EIGHT + tenKeys(), 8);
        CHECK.dueDeeds(ring, "p00 p10 p20 p30 p40 p50 p60 p70 p80 p90");
        Check.tellWork(ring, "tidy a;".repeat(40));
        for (int i = 0; i < 8; i++) {
            ring.see(i, 0, true);
        }
        Check.feed(ring, " ".repeat(1000));
        int[] due = {16, 4, 8, 10, 255, 10, 40, 8, 16, 1000};
        for (int what = 0; what < 10; what++) {
            CHECK.due("count " + what, ring.count(what), due[what]);
        }
    }

    static void promise48WithoutACircleItIs0() {
        NameRing ring = CHECK.ringOf("list 1;key k at 3;");
        CHECK.due("circle", ring.count(0), 0);
        CHECK.due("list", ring.count(1), 1);
        CHECK.due("nodes", ring.count(2), 0);
        CHECK.due("keys", ring.count(3), 1);
    }

    static void promise48CountsThoseInAsBits() {
        NameRing ring = CHECK.ringOf(FOUR);
        CHECK.due("nobody", ring.count(4), 0);
        CHECK.dueDeeds(ring, "b3");
        CHECK.due("d", ring.count(4), 8);
        CHECK.dueDeeds(ring, "j03");
        CHECK.due("a and d", ring.count(4), 9);
    }

    static void promise48CountsKeysThatAreHeldNotBits() {
        NameRing ring = CHECK.ringOf(FOUR + tenKeys());
        CHECK.dueDeeds(ring, "b0 p90");
        CHECK.due("one", ring.count(5), 1);
        CHECK.dueDeeds(ring, "p90 p80");
        CHECK.due("two", ring.count(5), 2);
        CHECK.dueDeeds(ring, "x0");
        CHECK.due("none", ring.count(5), 0);
    }
}
