/** Promises 5 to 19 and 47: what NODES have and do, UNDO and MARKS. */
public final class DeedsTest {
    private static final Check CHECK = new Check();
    /** a 0 plain, b 4 plain, c 8 short, d 12 shy, e 14 blind; KEYS k 1, l 5, m 12, n 15. */
    private static final String RING = "circle 16;node a plain at 0;node b plain at 4;node c short at 8;"
            + "node d shy at 12;node e blind at 14;key k at 1;key l at 5;key m at 12;key n at 15;";

    public static void main(String[] args) {
        nodesAreTold();
        beginning();
        joiningAndTidying();
        listsWithoutDoubles();
        leaving();
        failingAndFlushing();
        fixingAndMending();
        puttingAndHanding();
        withoutFirst();
        undoing();
        undoingSixteen();
        marking();
        CHECK.finish("DeedsTest");
    }

    private static void nodesAreTold() {
        NameRing ring = CHECK.ringOf(RING);
        int[] kinds = {0, 0, 1, 2, 3};
        int[] places = {0, 4, 8, 12, 14};
        for (int node = 0; node < 5; node++) {
            int[] due = {-2, kinds[node], places[node], 0, -1, -1, 0, -2};
            for (int what = -1; what < 7; what++) {
                CHECK.due("node " + node + " " + what, ring.node(node, what), due[what + 1]);
            }
        }
        CHECK.due("node 5", ring.node(5, 0), -2);
        CHECK.due("node -1", ring.node(-1, 0), -2);
        CHECK.due("key what 1", ring.key(0, 1), -1);
        CHECK.due("listed of one OUT", ring.listed(0, 0), -1);
        CHECK.due("listed of none", ring.listed(8, 0), -1);
        CHECK.due("listed of none", ring.listed(-1, 0), -1);
        CHECK.due("finger of one OUT", ring.finger(0, 0), -1);
        CHECK.due("finger of none", ring.finger(8, 0), -1);
        CHECK.due("finger of none", ring.finger(-1, 7), -1);
    }

    private static void beginning() {
        NameRing ring = CHECK.ringOf(RING);
        CHECK.due("start 5", ring.start(5), false);
        CHECK.due("start -1", ring.start(-1), false);
        CHECK.due("start", ring.start(2), true);
        CHECK.due("start again", ring.start(2), false);
        CHECK.due("start another", ring.start(0), false);
        CHECK.due("in", ring.node(2, 2), 1);
        CHECK.due("ahead", ring.node(2, 3), -1);
        CHECK.due("first", ring.node(2, 4), 2);
        CHECK.dueList(ring, 2, 2);
        CHECK.due("what is undone", ring.count(8), 1);
    }

    private static void joiningAndTidying() {
        NameRing ring = CHECK.ringOf(RING);
        CHECK.due("join, nobody IN", ring.join(1, 0), -1);
        ring.start(0);
        for (int key = 0; key < 4; key++) {
            CHECK.due("put", ring.put(key, 0), 0);
        }
        CHECK.due("join", ring.join(1, 0), 0);
        CHECK.due("join one IN", ring.join(1, 0), -1);
        CHECK.due("join by one OUT", ring.join(2, 3), -1);
        CHECK.due("join by itself", ring.join(2, 2), -1);
        CHECK.due("join no node", ring.join(5, 0), -1);
        CHECK.due("join by no node", ring.join(2, 5), -1);
        CHECK.due("join by no node", ring.join(2, -1), -1);
        CHECK.dueList(ring, 1, 0);
        CHECK.due("none ahead", ring.node(1, 3), -1);
        // a has none AHEAD: b is it; of k (13 from b on), l (1), m (8), n (11) k is beyond a (12)
        CHECK.due("tidy b", ring.tidy(1), 0);
        CHECK.due("ahead of a", ring.node(0, 3), 1);
        CHECK.dueHolders(ring, 1, 0, 0, 0);
        CHECK.due("held by a", ring.node(0, 5), 14);
        CHECK.due("held by b", ring.node(1, 5), 1);
        // a's FIRST is itself, ahead of it b: that one is meant
        CHECK.due("tidy a", ring.tidy(0), 1);
        CHECK.dueList(ring, 0, 1);
        CHECK.due("ahead of b", ring.node(1, 3), 0);
        CHECK.dueHolders(ring, 1, 0, 0, 0);
        CHECK.due("join c", ring.join(2, 1), 0);
        CHECK.dueList(ring, 2, 0);
        CHECK.due("tidy c, short", ring.tidy(2), 0);
        CHECK.dueList(ring, 2, 0);
        CHECK.due("ahead of a is c", ring.node(0, 3), 2);
        CHECK.dueHolders(ring, 1, 2, 0, 0);
        CHECK.due("join d over b", ring.join(3, 0), 0);
        CHECK.dueList(ring, 3, 0, 1);
        CHECK.due("tidy d", ring.tidy(3), 0);
        CHECK.due("ahead of a is d", ring.node(0, 3), 3);
        // m lies at d, but that one is shy
        CHECK.dueHolders(ring, 1, 2, 0, 0);
        CHECK.due("astray", ring.astray(), 4);
        // the one AHEAD of b's FIRST is between: d is meant, then its LIST, b itself not
        CHECK.due("tidy b", ring.tidy(1), 3);
        CHECK.dueList(ring, 1, 3, 0);
        CHECK.due("ahead of d", ring.node(3, 3), 1);
        // c is farther from a than d: a keeps d
        CHECK.due("tidy c", ring.tidy(2), 3);
        CHECK.due("ahead of d is c", ring.node(3, 3), 2);
        CHECK.due("ahead of a", ring.node(0, 3), 3);
        CHECK.due("tidy one OUT", ring.tidy(4), -1);
        CHECK.due("tidy none", ring.tidy(5), -1);
        CHECK.due("tidy none", ring.tidy(-1), -1);
    }

    private static void listsWithoutDoubles() {
        NameRing ring = CHECK.ringOf("circle 16;list 4;node a plain at 0;node b plain at 4;node c plain at 8;");
        ring.start(0);
        CHECK.due("tidy alone", ring.tidy(0), 0);
        CHECK.dueList(ring, 0, 0);
        ring.join(1, 0);
        ring.join(2, 0);
        for (int i = 0; i < 3; i++) {
            ring.tidy(0);
            ring.tidy(1);
            ring.tidy(2);
        }
        CHECK.dueList(ring, 0, 1, 2);
        CHECK.dueList(ring, 1, 2, 0);
        CHECK.dueList(ring, 2, 0, 1);
        // c comes again: a's LIST has it still, but itself it doesn't list
        ring.fail(2);
        CHECK.dueList(ring, 2);
        CHECK.dueList(ring, 0, 1, 2);
        CHECK.due("join again", ring.join(2, 0), 0);
        CHECK.dueList(ring, 2, 0, 1);
        CHECK.due("none ahead", ring.node(2, 3), -1);
        CHECK.due("first of b is c again", ring.node(1, 4), 2);
    }

    private static void leaving() {
        NameRing ring = CHECK.ringOf(RING);
        CHECK.due("leave OUT", ring.leave(0), false);
        ring.start(0);
        ring.put(0, 0);
        ring.put(3, 0);
        CHECK.due("leave alone", ring.leave(0), false);
        ring.join(1, 0);
        CHECK.due("its FIRST is itself still", ring.leave(0), false);
        ring.tidy(1);
        ring.tidy(0);
        CHECK.dueHolders(ring, 1, -1, -1, 0);
        CHECK.due("leave none", ring.leave(5), false);
        CHECK.due("leave none", ring.leave(-1), false);
        CHECK.due("leave", ring.leave(0), true);
        CHECK.dueHolders(ring, 1, -1, -1, 1);
        CHECK.due("who is IN", ring.count(4), 2);
        CHECK.due("it has nothing", ring.node(0, 3), -1);
        CHECK.dueList(ring, 0);
        CHECK.dueList(ring, 1, 0);
        CHECK.due("b has no FIRST", ring.node(1, 4), -1);
        CHECK.due("b can't leave", ring.leave(1), false);
    }

    private static void failingAndFlushing() {
        NameRing ring = CHECK.ringOf(RING);
        ring.start(0);
        ring.put(0, 0);
        ring.put(1, 0);
        ring.put(3, 0);
        ring.join(1, 0);
        ring.tidy(1);
        ring.tidy(0);
        CHECK.due("fix b", ring.fix(1, 1), true);
        CHECK.due("fix b", ring.fix(1, 3), true);
        CHECK.due("flush, all IN", ring.flush(1), 0);
        CHECK.due("fail OUT", ring.fail(2), -1);
        CHECK.due("fail none", ring.fail(5), -1);
        CHECK.due("fail none", ring.fail(-1), -1);
        CHECK.due("fail", ring.fail(0), 2);
        CHECK.dueHolders(ring, 1, -1, -1, -1);
        CHECK.due("lost", ring.lost(), 14);
        CHECK.dueList(ring, 1, 0);
        CHECK.due("ahead that is OUT", ring.node(1, 3), 0);
        CHECK.due("finger that is OUT", ring.finger(1, 3), 0);
        CHECK.due("flush OUT", ring.flush(0), -1);
        CHECK.due("flush none", ring.flush(5), -1);
        CHECK.due("flush none", ring.flush(-1), -1);
        // the LIST's a and two FINGERS; the one AHEAD doesn't count
        CHECK.due("flush", ring.flush(1), 3);
        CHECK.dueList(ring, 1);
        CHECK.due("ahead", ring.node(1, 3), -1);
        CHECK.due("finger", ring.finger(1, 3), -1);
        CHECK.due("flush again", ring.flush(1), 0);
        CHECK.due("fail the last", ring.fail(1), 1);
        CHECK.due("all lost", ring.lost(), 15);
        CHECK.due("begin anew", ring.start(3), true);
    }

    private static void fixingAndMending() {
        NameRing ring = CHECK.ringOf(RING);
        CHECK.due("fix OUT", ring.fix(0, 0), false);
        CHECK.due("mend OUT", ring.mend(0), -1);
        ring.start(0);
        ring.join(1, 0);
        ring.tidy(1);
        ring.tidy(0);
        ring.join(4, 0);
        CHECK.due("fix blind", ring.fix(4, 0), false);
        CHECK.due("mend blind", ring.mend(4), -1);
        CHECK.due("fix as far as the circle", ring.fix(0, 4), false);
        CHECK.due("fix farther", ring.fix(0, 7), false);
        CHECK.due("fix none such", ring.fix(0, 8), false);
        CHECK.due("fix none such", ring.fix(0, -1), false);
        CHECK.due("fix none such", ring.fix(0, 32), false);
        CHECK.due("fix no node", ring.fix(5, 0), false);
        CHECK.due("fix no node", ring.fix(-1, 0), false);
        CHECK.due("fix", ring.fix(0, 2), true);
        CHECK.due("finger 2", ring.finger(0, 2), 1);
        CHECK.due("finger 3", ring.finger(0, 3), -1);
        CHECK.due("finger 8", ring.finger(0, 8), -1);
        CHECK.due("finger -1", ring.finger(0, -1), -1);
        // 1, 2 are b's now, 8 is a's; 4 was b's already
        CHECK.due("mend", ring.mend(0), 3);
        CHECK.due("finger 0", ring.finger(0, 0), 1);
        CHECK.due("finger 1", ring.finger(0, 1), 1);
        CHECK.due("finger 3", ring.finger(0, 3), 0);
        CHECK.due("mend again", ring.mend(0), 0);
        CHECK.due("mend none", ring.mend(5), -1);
        CHECK.due("mend none", ring.mend(-1), -1);
        // in the greatest circle a FINGER 7 can be, in 9 a FINGER 3, in 8 none such
        fingerFits(256, 7, true);
        fingerFits(128, 7, false);
        fingerFits(9, 3, true);
        fingerFits(8, 3, false);
    }

    private static void fingerFits(int circle, int finger, boolean due) {
        NameRing ring = CHECK.ringOf("circle " + circle + ";node a plain at 5;");
        ring.start(0);
        CHECK.due("finger " + finger + " of " + circle, ring.fix(0, finger), due);
        CHECK.due("wrong", ring.wrongs(0) >> finger & 1, 0);
    }

    private static void puttingAndHanding() {
        NameRing ring = CHECK.ringOf(RING);
        CHECK.due("put by one OUT", ring.put(0, 0), -1);
        CHECK.due("hand OUT", ring.hand(0), -1);
        ring.start(0);
        CHECK.due("put no key", ring.put(4, 0), -1);
        CHECK.due("put no key", ring.put(-1, 0), -1);
        CHECK.due("put by no node", ring.put(0, 5), -1);
        CHECK.due("put by no node", ring.put(0, -1), -1);
        CHECK.due("put m", ring.put(2, 0), 0);
        CHECK.due("put n", ring.put(3, 0), 0);
        ring.join(3, 0);
        ring.tidy(3);
        ring.tidy(0);
        CHECK.dueHolders(ring, -1, -1, 0, 0);
        CHECK.due("hand no node", ring.hand(5), -1);
        CHECK.due("hand no node", ring.hand(-1), -1);
        // m lies at d, to which a hands it; n goes round to a itself
        CHECK.due("hand", ring.hand(0), 1);
        CHECK.dueHolders(ring, -1, -1, 3, 0);
        CHECK.due("hand again", ring.hand(0), 0);
        CHECK.due("put k", ring.put(0, 3), 3);
        CHECK.due("put l", ring.put(1, 3), 3);
        CHECK.due("count held", ring.count(5), 4);
        // once b is there it is put to another one
        ring.join(1, 0);
        ring.tidy(1);
        ring.tidy(0);
        CHECK.due("k went to b by tidying", ring.key(0, 1), 1);
        CHECK.due("put l again", ring.put(1, 1), 3);
        CHECK.dueHolders(ring, 1, 3, 3, 0);
    }

    private static void withoutFirst() {
        NameRing ring = CHECK.ringOf(RING);
        ring.start(0);
        ring.join(1, 0);
        ring.tidy(1);
        ring.fix(1, 0);
        CHECK.due("put n", ring.put(3, 1), 0);
        ring.tidy(0);
        CHECK.due("put k", ring.put(0, 1), 1);
        ring.fail(0);
        CHECK.due("tidy", ring.tidy(1), -1);
        CHECK.due("join", ring.join(0, 1), -1);
        CHECK.due("put", ring.put(1, 1), -1);
        CHECK.due("leave", ring.leave(1), false);
        CHECK.due("hand keeps", ring.hand(1), 0);
        CHECK.due("held", ring.key(0, 1), 1);
        int undone = ring.count(8);
        CHECK.due("finger", ring.finger(1, 0), 0);
        CHECK.due("fix to none", ring.fix(1, 0), true);
        CHECK.due("finger none", ring.finger(1, 0), -1);
        CHECK.due("mend to none", ring.mend(1), 0);
        CHECK.due("two more can be undone", ring.count(8), undone + 2);
    }

    private static void undoing() {
        NameRing ring = CHECK.ringOf(RING);
        CHECK.due("nothing yet", ring.undo(), false);
        ring.start(0);
        ring.join(1, 0);
        ring.put(0, 0);
        ring.tidy(1);
        ring.tidy(0);
        ring.mend(1);
        ring.hand(1);
        ring.fix(0, 3);
        ring.flush(0);
        ring.leave(0);
        ring.fail(1);
        CHECK.due("eleven", ring.count(8), 11);
        ring.start(9);
        ring.join(1, 0);
        CHECK.due("what can't be doesn't count", ring.count(8), 11);
        CHECK.due("undo fail", ring.undo(), true);
        CHECK.due("b is IN", ring.count(4), 2);
        CHECK.due("b holds k", ring.key(0, 1), 1);
        CHECK.due("undo leave", ring.undo(), true);
        CHECK.due("both are IN", ring.count(4), 3);
        CHECK.due("finger of a", ring.finger(0, 3), 0);
        CHECK.due("undo flush, which changed nothing", ring.undo(), true);
        CHECK.due("finger of a still", ring.finger(0, 3), 0);
        CHECK.due("undo fix", ring.undo(), true);
        CHECK.due("no finger of a", ring.finger(0, 3), -1);
        CHECK.due("undo hand", ring.undo(), true);
        CHECK.due("fingers of b", ring.finger(1, 0), 0);
        CHECK.due("undo mend", ring.undo(), true);
        CHECK.due("no fingers of b", ring.finger(1, 0), -1);
        CHECK.due("undo tidy", ring.undo(), true);
        CHECK.due("list of a", ring.listed(0, 0), 0);
        CHECK.due("k is b's", ring.key(0, 1), 1);
        CHECK.due("undo tidy", ring.undo(), true);
        CHECK.due("k is a's", ring.key(0, 1), 0);
        CHECK.due("none ahead of a", ring.node(0, 3), -1);
        CHECK.due("undo put", ring.undo(), true);
        CHECK.due("k is nobody's", ring.key(0, 1), -1);
        CHECK.due("undo join", ring.undo(), true);
        CHECK.due("a is IN", ring.count(4), 1);
        CHECK.due("undo start", ring.undo(), true);
        CHECK.due("nobody is IN", ring.count(4), 0);
        CHECK.due("no more", ring.undo(), false);
    }

    private static void undoingSixteen() {
        NameRing ring = CHECK.ringOf(RING);
        ring.start(0);
        ring.put(0, 0);
        for (int i = 0; i < 15; i++) {
            ring.flush(0);
        }
        CHECK.due("the last sixteen", ring.count(8), 16);
        CHECK.due("this can't be", ring.start(1), false);
        CHECK.due("nor this", ring.join(0, 0), -1);
        ring.see(3, 0, true);
        for (int i = 0; i < 15; i++) {
            CHECK.due("undo", ring.undo(), true);
            CHECK.due("k is a's", ring.key(0, 1), 0);
        }
        CHECK.due("undo put", ring.undo(), true);
        CHECK.due("k is nobody's", ring.key(0, 1), -1);
        CHECK.due("the start can't be undone any more", ring.undo(), false);
        CHECK.due("a is IN", ring.count(4), 1);
        CHECK.due("what is seen stays", ring.count(7), 1);
    }

    private static void marking() {
        NameRing ring = CHECK.ringOf(RING);
        CHECK.due("mark -1", ring.mark(-1, false), false);
        CHECK.due("mark 4", ring.mark(4, false), false);
        CHECK.due("back -1", ring.mark(-1, true), false);
        CHECK.due("back 4", ring.mark(4, true), false);
        for (int mark = 0; mark < 4; mark++) {
            CHECK.due("nothing on it", ring.mark(mark, true), false);
        }
        CHECK.due("mark 3", ring.mark(3, false), true);
        Check.tellWork(ring, "begin a;begin b;");
        ring.start(0);
        ring.put(0, 0);
        ring.see(3, 1, false);
        CHECK.due("mark 0", ring.mark(0, false), true);
        CHECK.due("laying undoes nothing", ring.count(8), 2);
        ring.join(1, 0);
        ring.tidy(1);
        ring.see(4, 1, false);
        Check.feed(ring, "abc");
        CHECK.due("back 0", ring.mark(0, true), true);
        CHECK.due("who is IN", ring.count(4), 1);
        CHECK.due("who holds k", ring.key(0, 1), 0);
        CHECK.due("none ahead", ring.node(0, 3), -1);
        CHECK.due("seen", ring.count(7), 1);
        CHECK.due("nothing can be undone", ring.count(8), 0);
        CHECK.due("nothing can be undone", ring.undo(), false);
        CHECK.due("the work stays", ring.count(6), 2);
        CHECK.due("the tape stays", ring.count(9), 3);
        ring.fail(0);
        CHECK.due("undo by one", ring.undo(), true);
        ring.fail(0);
        CHECK.due("back again", ring.mark(0, true), true);
        CHECK.due("who is IN", ring.count(4), 1);
        CHECK.due("back 3", ring.mark(3, true), true);
        CHECK.due("nobody is IN", ring.count(4), 0);
        CHECK.due("nothing seen", ring.count(7), 0);
        CHECK.due("nothing held", ring.count(5), 0);
        ring.start(2);
        CHECK.due("mark 0 anew", ring.mark(0, false), true);
        ring.fail(2);
        CHECK.due("back 0", ring.mark(0, true), true);
        CHECK.due("who is IN", ring.count(4), 4);
        CHECK.due("no mark 1", ring.mark(1, true), false);
        CHECK.due("who is IN still", ring.count(4), 4);
        markingWhatIsSeen();
    }

    /** The SEEN of a MARK is its own, not only how many there are. */
    private static void markingWhatIsSeen() {
        NameRing ring = CHECK.ringOf(RING);
        ring.start(0);
        ring.join(1, 0);
        ring.mark(0, false);
        // 1 is found from a at once, from b over a
        ring.see(1, 1, true);
        CHECK.due("b", ring.who(), 2);
        ring.mark(1, false);
        CHECK.due("back 0", ring.mark(0, true), true);
        CHECK.due("both", ring.who(), 3);
        ring.see(1, 1, false);
        CHECK.due("a", ring.who(), 1);
        CHECK.due("back 1", ring.mark(1, true), true);
        CHECK.due("b again", ring.who(), 2);
    }
}
