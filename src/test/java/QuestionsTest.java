/** Promises 8 (what 2) and 20 to 46: what is asked. */
public final class QuestionsTest {
    private static final Check CHECK = new Check();
    /** Owners, when all are IN: k b, l b, m d, n a. */
    private static final String NODES = "circle 16;node a plain at 0;node b plain at 4;node c plain at 8;node d plain at 12;";
    private static final String KEYS = "key k at 1;key l at 4;key m at 9;key n at 13;";

    public static void main(String[] args) {
        judging();
        finding();
        findingByFingers();
        keysAndOwners();
        following();
        brokenOnes();
        resting();
        neverResting();
        fingersThatAreWrong();
        waysToKeys();
        arcsAndLoads();
        knowing();
        heirs();
        risks();
        moves();
        seeing();
        asking();
        driving();
        outsiders();
        CHECK.finish("QuestionsTest");
    }

    /** All four at rest, each with its LIST of so many and the right one AHEAD. */
    private static NameRing restingRing(int list) {
        NameRing ring = CHECK.ringOf(NODES + KEYS + "list " + list + ";");
        ring.start(0);
        for (int node = 1; node < 4; node++) {
            ring.join(node, 0);
        }
        for (int i = 0; i < 6; i++) {
            for (int node = 0; node < 4; node++) {
                ring.tidy(node);
            }
        }
        for (int node = 0; node < 4; node++) {
            CHECK.due("ahead of " + node, ring.node(node, 3), node + 3 & 3);
            for (int i = 0; i < 4; i++) {
                CHECK.due("listed " + node + " " + i, ring.listed(node, i), i < list ? node + i + 1 & 3 : -1);
            }
        }
        return ring;
    }

    private static void judging() {
        NameRing ring = restingRing(2);
        CHECK.due("no work 0", ring.judged(0), -1);
        CHECK.due("no work 1", ring.judged(1), 0);
        CHECK.due("no work 2", ring.judged(2), 0);
        CHECK.due("others", ring.judged(-1), -2);
        CHECK.due("others", ring.judged(3), -2);
        // the first can't be (nobody is IN), nor can put and leave at the end: a, whom b lists, is OUT
        Check.tellWork(ring, "join b a;begin a;put k a;join b a;tidy b;fail a;put l b;leave b;");
        CHECK.due("line", ring.judged(0), 0);
        CHECK.due("in", ring.judged(1), 1);
        CHECK.due("held", ring.judged(2), 1);
        Check.tellWork(ring, "begin a;put k a;put l a;fix a 3;join b a;tidy b;tidy a;flush a;hand a;leave b;fix a 4;begin b;");
        CHECK.due("line", ring.judged(0), 10);
        CHECK.due("in", ring.judged(1), 1);
        CHECK.due("held", ring.judged(2), 2);
        Check.tellWork(ring, "begin a;join b a;fail b;");
        CHECK.due("all can be", ring.judged(0), -1);
        CHECK.due("all is as ahead", ring.count(4), 15);
        CHECK.due("all is as ahead", ring.count(8), 16);
    }

    private static void finding() {
        NameRing ring = restingRing(2);
        CHECK.duePath(ring, 0, 1, 1);
        CHECK.duePath(ring, 0, 4, 1);
        CHECK.duePath(ring, 0, 5, 2, 1);
        CHECK.duePath(ring, 0, 8, 2, 1);
        CHECK.duePath(ring, 0, 9, 3, 2);
        CHECK.duePath(ring, 0, 13, 0, 2, 3);
        CHECK.duePath(ring, 0, 0, 0, 2, 3);
        CHECK.duePath(ring, 1, 1, 1, 3, 0);
        CHECK.dueNoPath(ring, 0, 16);
        CHECK.dueNoPath(ring, 0, -1);
        CHECK.dueNoPath(ring, 4, 1);
        CHECK.dueNoPath(ring, -1, 1);
        ring.fail(2);
        CHECK.dueNoPath(ring, 2, 1);
        CHECK.duePath(ring, 0, 9, 3, 1);
        CHECK.duePath(restingRing(1), 0, 0, 0, 1, 2, 3);
        CHECK.duePath(restingRing(3), 0, 0, 0, 3);
    }

    private static void findingByFingers() {
        NameRing ring = restingRing(1);
        CHECK.duePath(ring, 0, 13, 0, 1, 2, 3);
        ring.fix(0, 3);
        CHECK.duePath(ring, 0, 13, 0, 2, 3);
        CHECK.duePath(ring, 0, 8, 2, 1);
        ring.fail(2);
        // c is asked no more, and b has no FIRST
        CHECK.dueNoPath(ring, 0, 13);
        CHECK.duePath(ring, 0, 3, 1);
    }

    private static void keysAndOwners() {
        NameRing ring = CHECK.ringOf(NODES + KEYS);
        CHECK.due("lost", ring.lost(), 15);
        CHECK.due("astray", ring.astray(), 0);
        CHECK.due("owner of none IN", ring.key(0, 2), -1);
        ring.start(2);
        for (int key = 0; key < 4; key++) {
            CHECK.due("owner", ring.key(key, 2), 2);
            ring.put(key, 2);
        }
        CHECK.due("none lost", ring.lost(), 0);
        CHECK.due("none astray", ring.astray(), 0);
        ring.join(1, 2);
        // l lies at b, n is nearer to b than to c
        CHECK.due("owner of k", ring.key(0, 2), 1);
        CHECK.due("owner of l", ring.key(1, 2), 1);
        CHECK.due("owner of m", ring.key(2, 2), 1);
        CHECK.due("owner of n", ring.key(3, 2), 1);
        CHECK.due("all astray", ring.astray(), 15);
        ring.join(3, 2);
        CHECK.due("owner of m", ring.key(2, 2), 3);
        ring.fail(2);
        CHECK.due("lost again", ring.lost(), 15);
        CHECK.due("what is lost is not astray", ring.astray(), 0);
    }

    private static void cyclesAre(NameRing ring, int many, int on, int hang, int broken) {
        CHECK.due("cycles 0", ring.cycles(0), many);
        CHECK.due("cycles 1", ring.cycles(1), on);
        CHECK.due("cycles 2", ring.cycles(2), hang);
        CHECK.due("cycles 3", ring.cycles(3), broken);
        CHECK.due("cycles 4", ring.cycles(4), -1);
        CHECK.due("cycles -1", ring.cycles(-1), -1);
    }

    private static void following() {
        NameRing ring = CHECK.ringOf(NODES);
        cyclesAre(ring, 0, 0, 0, 0);
        CHECK.due("ordered", ring.ordered(), false);
        ring.start(1);
        cyclesAre(ring, 1, 2, 0, 0);
        CHECK.due("ordered", ring.ordered(), true);
        CHECK.due("amiss", ring.amiss(), 0);
        CHECK.due("behind", ring.behind(), 0);
        ring.join(2, 1);
        ring.join(3, 1);
        cyclesAre(ring, 1, 2, 12, 0);
        CHECK.due("ordered", ring.ordered(), true);
        // b follows itself, c should follow d
        CHECK.due("amiss", ring.amiss(), 6);
        CHECK.due("behind", ring.behind(), 14);
        ring.tidy(3);
        CHECK.due("behind", ring.behind(), 12);
        ring.tidy(2);
        CHECK.due("c follows d", ring.node(2, 4), 3);
        CHECK.due("amiss", ring.amiss(), 2);
        CHECK.due("behind", ring.behind(), 4);
        // b goes round by d: c hangs on that
        CHECK.due("tidy b", ring.tidy(1), 3);
        cyclesAre(ring, 1, 10, 4, 0);
        CHECK.due("ordered", ring.ordered(), true);
        cyclesAre(restingRing(2), 1, 15, 0, 0);
        CHECK.due("amiss at rest", restingRing(2).amiss(), 0);
        CHECK.due("behind at rest", restingRing(2).behind(), 0);
    }

    private static void brokenOnes() {
        NameRing ring = restingRing(1);
        ring.fail(1);
        cyclesAre(ring, 0, 0, 0, 13);
        CHECK.due("ordered", ring.ordered(), false);
        CHECK.due("a has no FIRST", ring.amiss(), 1);
        CHECK.due("the one ahead of c is OUT", ring.behind(), 4);
        // d finds what is up to a; all else comes to a, who has no FIRST
        CHECK.duePath(ring, 3, 15, 0);
        CHECK.dueNoPath(ring, 3, 1);
        CHECK.dueNoPath(ring, 0, 1);
        // of k, l, m, n d finds n alone
        CHECK.due("far", ring.far(3), 0);
        CHECK.due("toil", ring.toil(3), 0);
        CHECK.due("far of a", ring.far(0), 0);
        // c finds m and, over d, n
        CHECK.due("far of c", ring.far(2), 1);
        CHECK.due("toil of c", ring.toil(2), 1);
        ring.see(1, 0, true);
        CHECK.due("not found: not so", ring.who(), 0);
        CHECK.due("nobody to ask about", ring.ask(), -1);
    }

    private static void resting() {
        NameRing ring = restingRing(2);
        CHECK.due("rests", ring.rests(), 0);
        CHECK.due("ordered after 0", ring.after(0, 0), 1);
        CHECK.due("after 31", ring.after(31, 0), -1);
        CHECK.due("after -1", ring.after(-1, 0), -1);
        CHECK.due("after what 4", ring.after(0, 4), -1);
        CHECK.due("after what -1", ring.after(0, -1), -1);
        ring.put(1, 0);
        ring.fail(1);
        CHECK.due("behind now", ring.after(0, 2), 4);
        CHECK.due("behind after one", ring.after(1, 2), 0);
        CHECK.due("behind after 30", ring.after(30, 2), 0);
        CHECK.due("amiss", ring.after(0, 1), 0);
        CHECK.due("rests after one", ring.rests(), 1);
        CHECK.due("all is as ahead", ring.behind(), 4);
        CHECK.due("all is as ahead", ring.listed(0, 0), 1);
        // b joins, and has k once it has tidied
        NameRing late = CHECK.ringOf(NODES + KEYS);
        late.start(0);
        late.put(0, 0);
        late.put(2, 0);
        late.join(1, 0);
        CHECK.due("astray now", late.after(0, 3), 1);
        CHECK.due("astray after one", late.after(1, 3), 0);
        CHECK.due("amiss now", late.after(0, 1), 1);
        // a comes first and follows itself still: in the next round it is told of b
        CHECK.due("amiss after one", late.after(1, 1), 1);
        CHECK.due("behind after one", late.after(1, 2), 2);
        CHECK.due("amiss after two", late.after(2, 1), 0);
        CHECK.due("behind after two", late.after(2, 2), 0);
        CHECK.due("rests after two", late.rests(), 2);
        CHECK.due("the key is a's still", late.key(0, 1), 0);
        CHECK.due("what can be undone", late.count(8), 4);
        CHECK.due("nobody rests", CHECK.ringOf(NODES).rests(), 0);
    }

    /** One that is gone wanders from LIST to LIST for ever. */
    private static void neverResting() {
        NameRing ring = CHECK.ringOf("circle 16;list 4;node a plain at 7;node b blind at 6;node c plain at 5;"
                + "node d plain at 8;node e plain at 12;");
        ring.start(3);
        ring.join(4, 3);
        ring.join(2, 4);
        ring.tidy(4);
        ring.tidy(3);
        ring.join(1, 4);
        ring.tidy(2);
        ring.tidy(2);
        ring.tidy(4);
        ring.fail(2);
        CHECK.due("rests never", ring.rests(), -1);
        CHECK.due("who is IN", ring.count(4), 26);
    }

    private static void fingersThatAreWrong() {
        NameRing ring = restingRing(2);
        CHECK.due("all", ring.wrongs(0), 15);
        ring.mend(0);
        CHECK.due("none", ring.wrongs(0), 0);
        ring.fail(1);
        CHECK.due("those to b", ring.wrongs(0), 7);
        CHECK.due("flush", ring.flush(0), 4);
        CHECK.due("none there", ring.wrongs(0), 7);
        ring.tidy(0);
        CHECK.due("mend", ring.mend(0), 3);
        CHECK.due("none", ring.wrongs(0), 0);
        // the PLACE of a FINGER is b's own again
        ring.join(1, 0);
        CHECK.due("those that should be b", ring.wrongs(0), 7);
    }

    private static void waysToKeys() {
        NameRing ring = restingRing(2);
        CHECK.due("far a", ring.far(0), 2);
        CHECK.due("toil a", ring.toil(0), 3);
        CHECK.due("far b", ring.far(1), 2);
        CHECK.due("toil b", ring.toil(1), 6);
        NameRing keyless = CHECK.ringOf(NODES);
        keyless.start(0);
        CHECK.due("far without keys", keyless.far(0), 0);
        CHECK.due("toil without keys", keyless.toil(0), 0);
        CHECK.due("load without keys", keyless.load(0), 0);
    }

    private static void arcsAndLoads() {
        NameRing ring = CHECK.ringOf(NODES + KEYS);
        CHECK.due("widest of none", ring.widest(), -1);
        ring.start(3);
        CHECK.due("arc alone", ring.arc(3), 16);
        CHECK.due("widest alone", ring.widest(), 3);
        CHECK.due("load alone", ring.load(3), 15);
        ring.join(1, 3);
        CHECK.due("arc d", ring.arc(3), 8);
        CHECK.due("arc b", ring.arc(1), 8);
        CHECK.due("of equal ones the first", ring.widest(), 1);
        CHECK.due("load b", ring.load(1), 11);
        CHECK.due("load d", ring.load(3), 4);
        ring.join(0, 3);
        CHECK.due("arc a", ring.arc(0), 4);
        CHECK.due("arc b", ring.arc(1), 4);
        CHECK.due("widest", ring.widest(), 3);
        CHECK.due("load a", ring.load(0), 8);
        CHECK.due("load b", ring.load(1), 3);
    }

    private static void knowing() {
        NameRing ring = restingRing(2);
        CHECK.due("hosts a", ring.hosts(0), 12);
        CHECK.due("reaches", ring.reaches(0), 15);
        ring.fail(0);
        CHECK.due("hosts of one OUT", ring.hosts(0), 12);
        CHECK.due("hosts of none", ring.hosts(4), -1);
        CHECK.due("hosts of none", ring.hosts(-1), -1);
        NameRing young = CHECK.ringOf(NODES);
        young.start(0);
        CHECK.due("hosts itself", young.hosts(0), 1);
        CHECK.due("reaches itself", young.reaches(0), 1);
        young.join(1, 0);
        CHECK.due("a doesn't know b", young.reaches(0), 1);
        CHECK.due("b knows a", young.reaches(1), 3);
        young.tidy(1);
        CHECK.due("a knows the one AHEAD", young.reaches(0), 3);
        young.join(2, 1);
        CHECK.due("c by a knows b", young.reaches(2), 7);
        young.fail(1);
        CHECK.due("who is OUT is not known", young.reaches(0), 1);
        CHECK.due("nor on", young.reaches(2), 5);
        young.join(3, 0);
        young.tidy(3);
        CHECK.due("c knows d over a", young.reaches(2), 13);
        NameRing pointed = restingRing(1);
        pointed.fix(0, 3);
        pointed.fail(1);
        CHECK.due("a knows c by a FINGER, and d by the one AHEAD", pointed.reaches(0), 13);
        knowingByTheFirstFinger();
    }

    /** a's LIST is c, which fails; d is AHEAD of a, and b its FINGER 0 still. */
    private static void knowingByTheFirstFinger() {
        NameRing ring = CHECK.ringOf("circle 16;list 1;node a plain at 0;node b plain at 8;node c plain at 4;node d plain at 12;");
        ring.start(0);
        ring.join(1, 0);
        ring.tidy(1);
        ring.tidy(0);
        ring.join(3, 1);
        ring.tidy(3);
        CHECK.due("fix", ring.fix(0, 0), true);
        ring.join(2, 0);
        ring.tidy(2);
        CHECK.due("tidy a", ring.tidy(0), 2);
        ring.fail(2);
        CHECK.due("reaches a, b, d", ring.reaches(0), 11);
    }

    private static void heirs() {
        NameRing ring = CHECK.ringOf(NODES + KEYS);
        CHECK.due("none IN", ring.heirs(0, 0), -1);
        ring = restingRing(2);
        int[] ofK = {-1, 1, 2, 3, 0, -1};
        int[] ofM = {-1, 3, 0, 1, 2, -1};
        for (int i = -1; i < 5; i++) {
            CHECK.due("heir of k " + i, ring.heirs(0, i), ofK[i + 1]);
            CHECK.due("heir of l, which lies at b " + i, ring.heirs(1, i), ofK[i + 1]);
            CHECK.due("heir of m " + i, ring.heirs(2, i), ofM[i + 1]);
        }
        CHECK.due("no key", ring.heirs(4, 0), -1);
        CHECK.due("no key", ring.heirs(-1, 0), -1);
        ring.fail(3);
        CHECK.due("the next one", ring.heirs(2, 0), 0);
        CHECK.due("three are left", ring.heirs(2, 3), -1);
    }

    private static void risks() {
        NameRing ring = restingRing(2);
        CHECK.due("risk 0", ring.risk(0), -1);
        CHECK.due("risk 1", ring.risk(1), 0);
        CHECK.due("risk 2", ring.risk(2), 4);
        CHECK.due("risk 3", ring.risk(3), 4);
        CHECK.due("risk 4", ring.risk(4), -1);
        CHECK.due("who is IN", ring.count(4), 15);
        ring = restingRing(1);
        CHECK.due("risk 1", ring.risk(1), 4);
        // a and c, or b and d, too: b (d) follows c (a)
        CHECK.due("risk 2", ring.risk(2), 6);
        ring = CHECK.ringOf(NODES);
        CHECK.due("nobody IN", ring.risk(1), 0);
        ring.start(0);
        CHECK.due("alone: no other one", ring.risk(1), 0);
        ring.join(1, 0);
        // b follows a; a follows itself
        CHECK.due("by a's failing", ring.risk(1), 1);
        CHECK.due("all: no other one", ring.risk(2), 0);
        CHECK.due("more than there are", ring.risk(3), 0);
        ring.fail(0);
        ring.undo();
        ring.join(2, 0);
        // b and c follow a: without a (or with a and one more) somebody is alone
        CHECK.due("risk 1", ring.risk(1), 1);
        CHECK.due("risk 2", ring.risk(2), 2);
    }

    private static void moves() {
        NameRing ring = CHECK.ringOf(NODES + KEYS);
        CHECK.due("the first one", ring.moves(2), 4);
        ring = restingRing(2);
        CHECK.due("a", ring.moves(0), 1);
        CHECK.due("b", ring.moves(1), 2);
        CHECK.due("c", ring.moves(2), 0);
        CHECK.due("d", ring.moves(3), 1);
        ring.fail(1);
        CHECK.due("b IN again", ring.moves(1), 2);
        CHECK.due("c has b's", ring.moves(2), 2);
        CHECK.due("none", ring.moves(4), -1);
        CHECK.due("none", ring.moves(-1), -1);
        NameRing alone = CHECK.ringOf(NODES + KEYS);
        alone.start(0);
        CHECK.due("nobody for somebody", alone.moves(0), 4);
    }

    private static void seeing() {
        NameRing ring = restingRing(2);
        CHECK.due("see 16", ring.see(16, 0, true), false);
        CHECK.due("see -1", ring.see(-1, 0, true), false);
        CHECK.due("see 21 steps", ring.see(1, 21, true), false);
        CHECK.due("see -1 steps", ring.see(1, -1, true), false);
        CHECK.due("nothing seen: all", ring.who(), 15);
        // to 1: a 0, b 2, c 1, d 1
        CHECK.due("one or more", ring.see(1, 1, true), true);
        CHECK.due("b, c, d", ring.who(), 14);
        CHECK.due("fewer than two", ring.see(1, 2, false), true);
        CHECK.due("c, d", ring.who(), 12);
        CHECK.due("20 steps", ring.see(0, 20, false), true);
        CHECK.due("c, d", ring.who(), 12);
        // from c 0 is found over d, from d at once
        CHECK.due("ask", ring.ask(), 0);
        CHECK.due("to 0 none", ring.see(0, 1, false), true);
        CHECK.due("d", ring.who(), 8);
        CHECK.due("one alone is not parted", ring.ask(), -1);
        for (int i = 4; i < 8; i++) {
            CHECK.due("see", ring.see(15, 0, true), true);
        }
        CHECK.due("eight there are", ring.see(15, 0, true), false);
        CHECK.due("seen", ring.count(7), 8);
        // as all is when it is asked: a fails, and d finds 1 at once
        ring.fail(0);
        CHECK.due("d no more", ring.who(), 0);
        ring.undo();
        CHECK.due("d again", ring.who(), 8);
        NameRing bare = CHECK.ringOf("key k at 1;");
        CHECK.due("no circle", bare.see(0, 0, true), false);
    }

    private static void asking() {
        NameRing ring = restingRing(2);
        // steps to any PLACE are 0, 1, 1, 2: two of four at most, by the first one already
        CHECK.due("ask", ring.ask(), 0);
        NameRing two = CHECK.ringOf(NODES);
        CHECK.due("nobody", two.ask(), -1);
        two.start(0);
        CHECK.due("one", two.ask(), -1);
        two.join(1, 0);
        // a follows itself: all is found at once; from b what is not up to a over a
        CHECK.due("two", two.ask(), 1);
        two.tidy(1);
        two.tidy(0);
        // 0: from a over b, from b at once
        CHECK.due("two at rest", two.ask(), 0);
        two.fail(1);
        CHECK.due("one that finds nobody", two.ask(), -1);
        NameRing broken = restingRing(1);
        broken.fail(1);
        // a finds nobody ever, c and d find 9 .. 12 and 13 .. 0: at 0 c takes 1, d 0, a none
        CHECK.due("not found is a part, too", broken.ask(), 0);
    }

    private static void driving() {
        NameRing ring = CHECK.ringOf("circle 16;node a plain at 3;");
        // by the seed 1: the 13th drive begins, tidy and flush behind it can be, then a FINGER 7 and one 6 can't
        int[][] due = {{1, 12, 0, 0}, {1, 20, 3, 1}, {1, 99, 29, 1}, {2, 5, 2, 0}, {2, 99, 41, 1}, {3, 10, 5, 1},
            {3, 20, 7, 0}, {0, 1, 1, 1}, {0, 5, 4, 0}, {9999, 10, 2, 1}, {9999, 99, 39, 1}};
        for (int[] row : due) {
            CHECK.due("drives " + row[0] + " " + row[1] + " 0", ring.drives(row[0], row[1], 0), row[2]);
            CHECK.due("drives " + row[0] + " " + row[1] + " 1", ring.drives(row[0], row[1], 1), row[3]);
            CHECK.due("drives " + row[0] + " " + row[1] + " 2", ring.drives(row[0], row[1], 2), 0);
        }
        CHECK.due("all is as ahead", ring.count(4), 0);
        CHECK.due("all is as ahead", ring.count(8), 0);
        CHECK.due("seed -1", ring.drives(-1, 5, 0), -1);
        CHECK.due("seed 10000", ring.drives(10000, 5, 0), -1);
        CHECK.due("none", ring.drives(1, 0, 0), -1);
        CHECK.due("a hundred", ring.drives(1, 100, 0), -1);
        CHECK.due("what 3", ring.drives(1, 5, 3), -1);
        CHECK.due("what -1", ring.drives(1, 5, -1), -1);
        // from now on: it is IN already, so the 13th can't be, but what is ahead of it
        ring.start(0);
        CHECK.due("one flushes", ring.drives(1, 1, 0), 1);
        CHECK.due("and fails", ring.drives(1, 2, 1), 0);
        CHECK.due("it is IN", ring.count(4), 1);
        NameRing none = CHECK.ringOf("circle 16;");
        CHECK.due("no nodes", none.drives(1, 99, 0), 0);
        CHECK.due("no nodes", none.drives(1, 99, 2), 0);
        CHECK.due("no nodes, others", none.drives(1, 99, 3), -1);
    }

    /** Of a NODE that is OUT, or that is none. */
    private static void outsiders() {
        NameRing ring = CHECK.ringOf(NODES + KEYS);
        ring.start(0);
        for (int node : new int[] {-1, 1, 4, 8, 32, Integer.MIN_VALUE, Integer.MAX_VALUE}) {
            CHECK.due("wrongs " + node, ring.wrongs(node), -1);
            CHECK.due("far " + node, ring.far(node), -1);
            CHECK.due("arc " + node, ring.arc(node), -1);
            CHECK.due("load " + node, ring.load(node), -1);
            CHECK.due("reaches " + node, ring.reaches(node), -1);
            CHECK.due("toil " + node, ring.toil(node), -1);
            CHECK.due("moves " + node, ring.moves(node), node == 1 ? 2 : -1);
            CHECK.due("hosts " + node, ring.hosts(node), node == 1 ? 0 : -1);
            CHECK.dueNoPath(ring, node, 3);
        }
    }
}
