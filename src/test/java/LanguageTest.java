/** Promises 1 to 4, 8 (what 0) and 48: the TAPE, the language and its FAULTS. */
public final class LanguageTest {
    private static final Check CHECK = new Check();

    public static void main(String[] args) {
        newObject();
        feeding();
        tokens();
        circleAndList();
        nodes();
        keys();
        laws();
        lawFaults();
        ringsAreTaken();
        works();
        workFaults();
        counts();
        CHECK.finish("LanguageTest");
    }

    private static void ringFault(int kind, String marked) {
        CHECK.dueRingFault(kind, marked);
    }

    private static void workFault(int kind, String marked) {
        NameRing ring = CHECK.ringOf("circle 16;node a plain at 0;node b plain at 4;key k at 1;");
        CHECK.due("work before " + marked, Check.tellWork(ring, "begin a;"), 0);
        CHECK.dueWorkFault(ring, kind, marked);
    }

    private static int lieOf(String law, int told, int which) {
        NameRing ring = new NameRing();
        StringBuilder text = new StringBuilder("circle 100;node a plain at 0;node b plain at 1;node c plain at 2;");
        for (int i = 0; i < which; i++) {
            text.append("key x").append((char) ('a' + i)).append(" at 0;");
        }
        text.append("key k at ").append(told).append(";lies ").append(law).append(';');
        CHECK.due("ring with " + law, Check.tellRing(ring, text.toString()), 0);
        return ring.key(which, 0);
    }

    private static void newObject() {
        NameRing ring = new NameRing();
        for (int what = 0; what < 10; what++) {
            CHECK.due("new count " + what, ring.count(what), what == 1 ? 2 : 0);
        }
        CHECK.due("NONE", NameRing.NONE, -1);
    }

    private static void feeding() {
        NameRing ring = new NameRing();
        CHECK.due("feed nothing", ring.feed(0, 0, 0), 0);
        // 9, 10, 11, 31, 32, 126, 127, 128: three of these are signs
        CHECK.due("feed edges", ring.feed(0x090A0B1F207E7F80L, -1L, 0), 3);
        CHECK.due("feed more", ring.feed(0, 0, 'a'), 4);
        CHECK.due("feed 24", ring.feed(0x2020202020202020L, 0x2020202020202020L, 0x2020202020202020L), 28);
        for (int i = 0; i < 40; i++) {
            ring.feed(0x2020202020202020L, 0x2020202020202020L, 0x2020202020202020L);
        }
        CHECK.due("feed up to", ring.count(9), 988);
        CHECK.due("feed beyond", ring.feed(0x2020202020202020L, 0x2020202020202020L, 0x2020202020202020L), 1000);
        CHECK.due("feed beyond", ring.feed(0x2020202020202020L, 0, 0), 1000);
        CHECK.due("the third sign is wrong", ring.ring(), 1 + 16 * 2);
        CHECK.due("taken", ring.count(9), 0);
        // of each the highest first: "list 3;"
        CHECK.due("order", ring.feed('l' << 8 | 'i', 's' << 8 | 't', 0x20333B00L), 7);
        CHECK.due("read", ring.ring(), 0);
        CHECK.due("list", ring.count(1), 3);
    }

    private static void tokens() {
        ringFault(0, "");
        ringFault(0, " \n ");
        ringFault(0, "\ncircle\n16\n;list3;node a plain at5;");
        ringFault(0, "circle 0008;key abcdefgh at 0999;");
        ringFault(1, "key ^abcdefghi at 1;");
        ringFault(1, "key k at ^00001;");
        ringFault(1, "circle 16; ^!");
        ringFault(1, "^Circle 16;");
        ringFault(1, "circle^");
        ringFault(1, "circle 16^");
        ringFault(1, "circle 16  ^");
        ringFault(1, "circle 16 ^list");
        // a letter may stand right behind a NUMBER, and a NUMBER behind a WORD
        ringFault(1, "circle 16^x;");
        ringFault(1, "key k^1 at 1;");
        ringFault(1, "^;");
        ringFault(1, "^16");
        ringFault(1, "^at");
        ringFault(1, "^begin a;");
    }

    private static void circleAndList() {
        ringFault(4, "circle ^7;");
        ringFault(0, "circle 8;");
        ringFault(0, "circle 256;");
        ringFault(4, "circle ^257;");
        ringFault(1, "circle ^;");
        ringFault(3, "circle 8;list 1;^circle 7;");
        ringFault(4, "list ^0;");
        ringFault(0, "list 1;");
        ringFault(0, "list 4;");
        ringFault(4, "list ^5;");
        ringFault(1, "list ^x;");
        ringFault(3, "list 2;^list 2;");
        ringFault(1, "list 2;^lists 2;");
    }

    private static void nodes() {
        String c = "circle 16;";
        ringFault(0, c + "node a plain at 0;node b short at 15;node c shy at 7;node d blind at 8;");
        ringFault(4, "node a plain at ^0;circle 16;");
        ringFault(4, c + "node a plain at ^16;");
        ringFault(3, c + "node a plain at 3;node b plain at ^3;");
        ringFault(3, c + "node a plain at 3;node ^a plain at 3;");
        ringFault(3, c + "key a at 3;node ^a plain at 3;");
        ringFault(1, c + "node ^plain plain at 3;");
        ringFault(1, c + "node ^7 plain at 3;");
        ringFault(1, c + "node a ^at 3;");
        ringFault(1, c + "node a ^loud at 3;");
        ringFault(1, c + "node a plain ^3;");
        ringFault(1, c + "node a plain at ^x;");
        ringFault(1, c + "node a plain at 3 ^node;");
        ringFault(0, c + "node told plain at 3;node which plain at 4;node nodes plain at 5;");
        for (String word : Model.RESERVED) {
            ringFault(1, c + "node ^" + word + " plain at 3;");
            ringFault(1, "key ^" + word + " at 3;");
        }
        StringBuilder eight = new StringBuilder(c);
        for (int i = 0; i < 8; i++) {
            eight.append("node n").append((char) ('a' + i)).append(" plain at ").append(i).append(';');
        }
        ringFault(0, eight.toString());
        ringFault(5, eight + "^node na plain at 0;");
        ringFault(5, eight + "^node");
    }

    private static void keys() {
        ringFault(0, "key k at 0;key l at 999;");
        ringFault(4, "key k at ^1000;");
        ringFault(3, "key k at 5;key ^k at 5;");
        ringFault(0, "key k at 5;key l at 5;");
        ringFault(1, "key k ^5;");
        ringFault(1, "key k at 5^");
        StringBuilder ten = new StringBuilder();
        for (int i = 0; i < 10; i++) {
            ten.append("key k").append((char) ('a' + i)).append(" at ").append(i).append(';');
        }
        ringFault(0, ten.toString());
        ringFault(5, ten + "^key");
        // without a circle all lie at 0
        NameRing ring = CHECK.ringOf("key k at 5;lies told + 3;");
        CHECK.due("no circle", ring.key(0, 0), 0);
        CHECK.due("nobody is IN", ring.key(0, 2), -1);
        ring = CHECK.ringOf("key k at 25;circle 10;");
        CHECK.due("without lies: told", ring.key(0, 0), 5);
        CHECK.due("key what 3", ring.key(0, 3), -2);
        CHECK.due("key what -1", ring.key(0, -1), -2);
        CHECK.due("key 1", ring.key(1, 0), -2);
        CHECK.due("key -1", ring.key(-1, 0), -2);
    }

    private static void laws() {
        CHECK.due("told", lieOf("told", 7, 0), 7);
        CHECK.due("which", lieOf("which", 7, 4), 4);
        CHECK.due("circle", lieOf("circle - 1", 7, 0), 99);
        CHECK.due("nodes", lieOf("nodes", 7, 0), 3);
        CHECK.due("below 0", lieOf("0 - 1", 7, 0), 99);
        CHECK.due("modulo", lieOf("9999", 7, 0), 99);
        CHECK.due("* ahead of +", lieOf("2 + 3 * 4", 7, 0), 14);
        CHECK.due("- from the left", lieOf("20 - 5 - 3", 7, 0), 12);
        CHECK.due("< last", lieOf("1 + 1 < 3", 7, 0), 1);
        CHECK.due("<", lieOf("3 < 3", 7, 0), 0);
        CHECK.due("=", lieOf("3 = 1 + 2", 7, 0), 1);
        CHECK.due("= not", lieOf("3 = 4", 7, 0), 0);
        // from the left: (1 or 1) and 0
        CHECK.due("and, or alike", lieOf("1 or 1 and 0", 7, 0), 0);
        CHECK.due("and", lieOf("5 and 7", 7, 0), 1);
        CHECK.due("and 0", lieOf("5 and 0", 7, 0), 0);
        CHECK.due("or", lieOf("0 or 7", 7, 0), 1);
        CHECK.due("or 0", lieOf("0 or 0", 7, 0), 0);
        CHECK.due("not", lieOf("not 7 + 3", 7, 0), 3);
        CHECK.due("not 0", lieOf("not 0 * 5", 7, 0), 5);
        CHECK.due("not ( )", lieOf("not ( 7 < 3 )", 7, 0), 1);
        CHECK.due("( )", lieOf("( 2 + 3 ) * 4", 7, 0), 20);
        CHECK.due("deep", lieOf("((((told))))+not not(not 0)", 7, 0), 8);
        CHECK.due("deep", lieOf("not not not not told + 4", 7, 0), 5);
        CHECK.due("no blanks", lieOf("(2+3)*4and1", 7, 0), 1);
        // 9000 * 9000 * 9000 is 729000000000; less 170 times 2^32 it is -1144440320 (modulo 100: 80)
        CHECK.due("ints wrap", lieOf("9000 * 9000 * 9000", 7, 0), 80);
        CHECK.due("ahead of all", lieAhead(), 9 + 2 + 1);
        ringFault(0, "lies circle;");
    }

    private static int lieAhead() {
        NameRing ring = CHECK.ringOf("lies told + circle * 0 + nodes + which;key j at 1;key k at 9;circle 50;"
                + "node a plain at 0;node b plain at 1;");
        return ring.key(1, 0);
    }

    private static void lawFaults() {
        ringFault(1, "lies ^;");
        ringFault(1, "lies ^");
        ringFault(1, "lies ^x;");
        ringFault(1, "lies ^key;");
        ringFault(1, "lies told ^told;");
        ringFault(1, "lies told + ^;");
        ringFault(1, "lies told + ^* 2;");
        ringFault(1, "lies ^- 2;");
        ringFault(1, "lies 1 < 2 ^< 3;");
        ringFault(1, "lies 1 = 2 ^< 3;");
        ringFault(0, "lies (1 < 2) < 3 and 4 = 5;");
        ringFault(1, "lies (1^;");
        ringFault(1, "lies 1^);");
        ringFault(1, "lies (^);");
        ringFault(1, "lies not ^and;");
        ringFault(1, "lies 1 and ^or 1;");
        ringFault(3, "lies 1;^lies 1;");
        ringFault(0, "lies ((((1))));");
        ringFault(5, "lies (((((^1)))));");
        ringFault(5, "lies (((((^(1))))));");
        ringFault(5, "lies (((((^not 1)))));");
        ringFault(0, "lies not not not not 1;");
        ringFault(5, "lies not not not not not ^1;");
        ringFault(5, "lies not(not(not ^1));");
        ringFault(0, "lies not(not(1));");
        // siblings do not lie within one another
        ringFault(0, "lies ((1) + (((2)) * not not 3));");
        // what can't stand there is 1, even so deep
        ringFault(1, "lies (((((^)))));");
        ringFault(1, "lies (((((^;");
        ringFault(1, "lies (((((^x");
        ringFault(1, "lies (((((^");
    }

    private static void ringsAreTaken() {
        NameRing ring = CHECK.ringOf("circle 16;node a plain at 0;node b plain at 4;key k at 1;list 3;");
        CHECK.due("start", ring.start(0), true);
        CHECK.due("put", ring.put(0, 0), 0);
        CHECK.due("work", Check.tellWork(ring, "begin a;"), 0);
        CHECK.due("see", ring.see(1, 0, true), true);
        CHECK.due("mark", ring.mark(1, false), true);
        CHECK.due("fault", Check.tellRing(ring, "circle 32;circle"), 3 + 16 * 10);
        int[] same = {16, 3, 2, 1, 1, 1, 1, 1, 2, 0};
        for (int what = 0; what < 10; what++) {
            CHECK.due("all stays, count " + what, ring.count(what), same[what]);
        }
        CHECK.due("work", Check.tellWork(ring, "begin b;leave b;"), 0);
        CHECK.due("a work leaves the rest", ring.count(8), 2);
        CHECK.due("a work leaves the rest", ring.count(7), 1);
        CHECK.due("new", Check.tellRing(ring, "circle 32;node b plain at 1;key k at 1;"), 0);
        int[] anew = {32, 2, 1, 1, 0, 0, 0, 0, 0, 0};
        for (int what = 0; what < 10; what++) {
            CHECK.due("a new ring, count " + what, ring.count(what), anew[what]);
        }
        CHECK.due("no mark", ring.mark(1, true), false);
        CHECK.due("undo", ring.undo(), false);
        CHECK.due("empty", ring.ring(), 0);
        CHECK.due("an empty ring has no circle", ring.count(0), 0);
        CHECK.due("an empty ring has no nodes", ring.count(2), 0);
    }

    private static void works() {
        workFault(0, "");
        workFault(0, "begin a;join a b;leave a;fail a;tidy a;flush a;fix a 0;fix a 7;put k a;hand a;");
        NameRing ring = CHECK.ringOf("circle 16;node a plain at 0;");
        CHECK.due("work", Check.tellWork(ring, "begin a;tidy a;"), 0);
        CHECK.due("lines", ring.count(6), 2);
        CHECK.due("empty", ring.work(), 0);
        CHECK.due("no lines", ring.count(6), 0);
        CHECK.due("forty", Check.tellWork(ring, "tidy a;".repeat(40)), 0);
        CHECK.due("forty lines", ring.count(6), 40);
        CHECK.due("one more", Check.tellWork(ring, "tidy a;".repeat(41)), 5 + 16 * 280);
        CHECK.due("one more that is none", Check.tellWork(ring, "tidy a;".repeat(40) + "circle"), 1 + 16 * 280);
        CHECK.due("tokens ahead of it count first", Check.tellWork(ring, "tidy a;".repeat(39) + "tidy;tidy a;tidy a;"), 1 + 16 * 277);
    }

    private static void workFaults() {
        workFault(1, "^start a;");
        workFault(1, "^circle 16;");
        workFault(1, "^mend a;");
        workFault(1, "begin^");
        workFault(1, "begin a^");
        workFault(1, "begin a ^a;");
        workFault(1, "begin ^at;");
        workFault(1, "begin ^1;");
        workFault(1, "begin ^;");
        workFault(2, "begin ^c;");
        workFault(2, "begin ^k;");
        workFault(2, "begin ^told;");
        workFault(1, "join a^;");
        workFault(2, "join a ^c;");
        workFault(2, "join ^c c;");
        workFault(0, "join a a;");
        workFault(2, "put ^a a;");
        workFault(2, "put k ^k;");
        workFault(1, "put k^;");
        workFault(1, "fix a^;");
        workFault(1, "fix a ^b;");
        workFault(4, "fix a ^8;");
        workFault(1, "fix a ^00000;");
        workFault(1, "hand a 1;".replace(" 1", " ^1"));
        workFault(1, "begin a; ^@");
    }

    private static void counts() {
        NameRing ring = CHECK.ringOf("circle 20;list 4;node a plain at 3;node b plain at 4;node c plain at 7;"
                + "key k at 1;key l at 2;key m at 3;");
        Check.tellWork(ring, "begin a;join b a;");
        ring.start(1);
        ring.join(2, 1);
        ring.put(1, 1);
        ring.put(2, 1);
        ring.see(5, 1, true);
        Check.feed(ring, "abc");
        int[] due = {20, 4, 3, 3, 6, 2, 2, 1, 4, 3};
        for (int what = 0; what < 10; what++) {
            CHECK.due("count " + what, ring.count(what), due[what]);
        }
        CHECK.due("count 10", ring.count(10), -1);
        CHECK.due("count -1", ring.count(-1), -1);
    }
}
