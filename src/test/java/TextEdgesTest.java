/** The edges that the document names for promises 1 to 4: the TAPE, RINGS, WORKS and their FAULTS; a test each. */
public final class TextEdgesTest {
    private static final Check CHECK = new Check();
    private static final String SIGNS = "()<=+-*;";
    private static final String[] DEEDS = {"begin", "join", "leave", "fail", "tidy", "flush", "fix", "put", "hand"};

    public static void main(String[] args) throws IllegalAccessException {
        CHECK.runPromises(TextEdgesTest.class);
        CHECK.finish("TextEdgesTest");
    }

    private static void ringFault(int kind, String marked) {
        CHECK.dueRingFault(kind, marked);
    }

    /** In a RING of the NODES a, b and the KEY k, with a WORK of one line. */
    private static void workFault(int kind, String marked) {
        NameRing ring = CHECK.ringOf("circle 16;node a plain at 0;node b plain at 4;key k at 1;");
        CHECK.due("the work ahead", Check.tellWork(ring, "begin a;"), 0);
        CHECK.dueWorkFault(ring, kind, marked);
    }

    private static String nodes(int many) {
        StringBuilder text = new StringBuilder("circle 16;");
        for (int i = 0; i < many; i++) {
            text.append("node n").append((char) ('a' + i)).append(" plain at ").append(i).append(';');
        }
        return text.toString();
    }

    private static String keys(int many) {
        StringBuilder text = new StringBuilder();
        for (int i = 0; i < many; i++) {
            text.append("key k").append((char) ('a' + i)).append(" at ").append(i).append(';');
        }
        return text.toString();
    }

    private static boolean isLetterOrDigit(int sign) {
        return sign >= 'a' && sign <= 'z' || sign >= '0' && sign <= '9';
    }

    // ---- promise 1

    static void promise01ANewObjectHasNothing() {
        NameRing ring = new NameRing();
        for (int what = 0; what < 10; what++) {
            CHECK.due("count " + what, ring.count(what), what == 1 ? 2 : 0);
        }
        CHECK.due("no node", ring.node(0, 0), -2);
        CHECK.due("no key", ring.key(0, 0), -2);
        CHECK.due("no undo", ring.undo(), false);
        for (int mark = 0; mark < 4; mark++) {
            CHECK.due("no mark", ring.mark(mark, true), false);
        }
        CHECK.due("no line that can't be", ring.judged(0), -1);
    }

    static void promise01ObjectsHaveNothingInCommon() {
        NameRing one = CHECK.ringOf(nodes(2));
        NameRing other = CHECK.ringOf(nodes(3));
        CHECK.due("start", one.start(0), true);
        CHECK.due("nobody is IN in the other", other.count(4), 0);
        CHECK.due("nodes of the one", one.count(2), 2);
        CHECK.due("nodes of the other", other.count(2), 3);
    }

    static void promise01NoneIsMinus1() {
        CHECK.due("NONE", NameRing.NONE, -1);
    }

    // ---- promise 2

    static void promise02TakesUpTo24SignsACall() {
        NameRing ring = new NameRing();
        CHECK.due("none", ring.feed(0, 0, 0), 0);
        CHECK.due("24", ring.feed(0x6161616161616161L, 0x6161616161616161L, 0x6161616161616161L), 24);
        CHECK.due("one", ring.feed(0, 0, 'a'), 25);
    }

    static void promise02TakesOfEachTheHighestByteFirst() {
        NameRing ring = new NameRing();
        // "list 4;l", "ies 0;", "key k at", spread over the three
        ring.feed(0x6C69737420343B6CL, 0x69657320303B0000L, 0x6B6579206B206174L);
        ring.feed(0x2037000000000000L, 0x000000000000003BL, 0);
        CHECK.due("signs", ring.count(9), 25);
        CHECK.due("ring", ring.ring(), 0);
        CHECK.due("list", ring.count(1), 4);
        CHECK.due("keys", ring.count(3), 1);
    }

    static void promise02LeavesOutAllBytesBut10And32To126() {
        for (int sign = 0; sign < 256; sign++) {
            int due = sign == 10 || sign >= 32 && sign <= 126 ? 1 : 0;
            int shift = sign % 8 * 8;
            CHECK.due("byte in a " + sign, new NameRing().feed((long) sign << shift, 0, 0), due);
            CHECK.due("byte in b " + sign, new NameRing().feed(0, (long) sign << shift, 0), due);
            CHECK.due("byte in c " + sign, new NameRing().feed(0, 0, (long) sign << shift), due);
        }
        CHECK.due("all bits", new NameRing().feed(-1, -1, -1), 0);
    }

    static void promise02LeavesOutWhatIsBeyond1000() {
        NameRing ring = new NameRing();
        CHECK.due("990", Check.feed(ring, " ".repeat(990)), 990);
        // ten more find room: "list 4;" and three blanks
        CHECK.due("1000", Check.feed(ring, "list 4;   !!!!!!!!!!!!!!"), 1000);
        CHECK.due("still 1000", ring.feed(0x2121212121212121L, 0x2121212121212121L, 0x2121212121212121L), 1000);
        CHECK.due("count", ring.count(9), 1000);
        CHECK.due("none of what is beyond is read", ring.ring(), 0);
        CHECK.due("list", ring.count(1), 4);
    }

    static void promise02TakesThe1000th() {
        NameRing ring = new NameRing();
        Check.feed(ring, " ".repeat(993) + "list 3");
        CHECK.due("999", ring.count(9), 999);
        CHECK.due("1000", ring.feed(';', 0, 0), 1000);
        CHECK.due("ring", ring.ring(), 0);
        CHECK.due("list", ring.count(1), 3);
    }

    static void promise02WhatIsLeftOutTakesNoRoom() {
        NameRing ring = new NameRing();
        for (int i = 0; i < 60; i++) {
            CHECK.due("nothing", ring.feed(0x0909090909090909L, -1, 0x7F7F7F7F7F7F7F7FL), 0);
        }
        CHECK.due("1000 have room still", Check.feed(ring, " ".repeat(1000)), 1000);
    }

    static void promise02WhatIsLeftOutPartsNoTokens() {
        NameRing ring = new NameRing();
        Check.feed(ring, "cir\tcle\u0000 1\r6\u007F;li\tst\t3;");
        CHECK.due("signs", ring.count(9), 16);
        CHECK.due("ring", ring.ring(), 0);
        CHECK.due("circle", ring.count(0), 16);
        CHECK.due("list", ring.count(1), 3);
    }

    static void promise02AnswersHowManyThereAre() {
        NameRing ring = new NameRing();
        CHECK.due("five", Check.feed(ring, "abcde"), 5);
        CHECK.due("five and two", Check.feed(ring, "fg"), 7);
        CHECK.due("and none", ring.feed(0, 0, 0), 7);
    }

    // ---- promise 3: the TAPE

    static void promise03TakesTheTape() {
        NameRing ring = new NameRing();
        CHECK.due("right", Check.tellRing(ring, "list 3;"), 0);
        CHECK.due("empty", ring.count(9), 0);
        CHECK.due("wrong", Check.tellRing(ring, "list 3"), 1 + 16 * 6);
        CHECK.due("empty with a fault, too", ring.count(9), 0);
        CHECK.due("the next text begins at 0", Check.tellRing(ring, "#"), 1);
    }

    static void promise03ReadsAnEmptyTapeAsARingOfNothing() {
        NameRing ring = CHECK.ringOf("circle 16;list 3;" + keys(2));
        CHECK.due("ring", ring.ring(), 0);
        int[] due = {0, 2, 0, 0, 0, 0, 0, 0, 0, 0};
        for (int what = 0; what < 10; what++) {
            CHECK.due("count " + what, ring.count(what), due[what]);
        }
    }

    static void promise03ReadsBlanksAloneAsARingOfNothing() {
        ringFault(0, " ");
        ringFault(0, "\n \n");
        ringFault(0, " ".repeat(1000));
    }

    // ---- promise 3: tokens

    static void promise03LetsBlanksStandWhereOneLikes() {
        ringFault(0, "circle16;list3;key k at5;lies(told+1)*2;");
        ringFault(0, " circle  16 \n;\n\nlist\n3\n; key k\nat 5 ; lies ( told + 1 ) * 2 ; ");
        ringFault(1, "^circlek 16;");
        ringFault(1, "^cir cle 16;");
        ringFault(1, "key k at 1 ^6;");
        ringFault(1, "key a ^b at 1;");
    }

    static void promise03ReadsTokensAsLongAsCanBe() {
        ringFault(1, "^listkey 3;");
        ringFault(1, "key ^at at 1;");
        ringFault(0, "key atk at 1;");
        ringFault(0, "key notk at 1;lies not told;");
        ringFault(1, "lies ^nottold;");
        ringFault(4, "circle ^1616;");
    }

    static void promise03TakesWordsOf8LettersAndNoneOf9() {
        ringFault(0, "key abcdefgh at 1;");
        ringFault(0, "circle 8;node zzzzzzzz plain at 1;");
        ringFault(1, "key ^abcdefghi at 1;");
        ringFault(1, "circle 8;node ^zzzzzzzzz plain at 1;");
        ringFault(1, "^circlecir 16;");
        ringFault(1, "^" + "a".repeat(1000));
        workFault(1, "^beginbegin a;");
    }

    static void promise03TakesNumbersOf4DigitsAndNoneOf5() {
        ringFault(0, "circle 0016;");
        ringFault(0, "key k at 0999;");
        ringFault(0, "lies 9999;");
        ringFault(1, "circle ^00016;");
        ringFault(1, "key k at ^00999;");
        ringFault(1, "lies ^10000;");
        ringFault(1, "lies ^4294967296;");
        ringFault(1, "key k at ^" + "0".repeat(900) + ";");
    }

    static void promise03LetsALetterStandRightBehindANumber() {
        ringFault(0, "key k at 3;lies 1and 2or told<3or which;");
        ringFault(1, "circle 16^list 2;");
        ringFault(1, "circle 16^x;");
        // what is behind is a token of its own, which may be none
        ringFault(1, "lies 1^abcdefghi;");
    }

    static void promise03ADigitBehindAWordIsATokenOfItsOwn() {
        ringFault(1, "key k^1 at 5;");
        ringFault(0, "list4;");
    }

    static void promise03KnowsEightSignsAndNoOthers() {
        for (int sign = 33; sign < 127; sign++) {
            // the sign that marks a token elsewhere can't be marked itself
            boolean marks = sign == '^';
            if (!isLetterOrDigit(sign) && !marks) {
                ringFault(1, "^" + (char) sign);
                ringFault(sign == ';' ? 0 : 1, "list 3^" + (char) sign);
            }
            if (!isLetterOrDigit(sign) && !marks && SIGNS.indexOf(sign) < 0) {
                ringFault(1, "lies told ^" + (char) sign + " told;");
                ringFault(1, "lies ^" + (char) sign + ";");
            }
        }
        CHECK.due("the sign that marks", Check.tellRing(new NameRing(), "lies told ^ told;"), 1 + 16 * 10);
        ringFault(0, "lies (told)<told+told-told*told;");
        ringFault(0, "lies told=told;");
    }

    static void promise03KnowsNoCapitals() {
        ringFault(1, "^Circle 16;");
        ringFault(1, "^cIrcle 16;");
        ringFault(1, "key ^K at 1;");
        ringFault(1, "key k^K at 1;");
    }

    // ---- promise 3: circle and list

    static void promise03TakesACircleOf8To256() {
        for (int number = 0; number <= 300; number++) {
            boolean right = number >= 8 && number <= 256;
            ringFault(right ? 0 : 4, "circle ^" + number + ";");
        }
        ringFault(4, "circle ^9999;");
        CHECK.due("8", CHECK.ringOf("circle 8;").count(0), 8);
        CHECK.due("256", CHECK.ringOf("circle 256;").count(0), 256);
    }

    static void promise03AheadOfTheCircleThereIsNone() {
        ringFault(4, "node a plain at ^0;circle 16;");
        ringFault(4, "node a plain at ^0;");
        ringFault(0, "key k at 0;circle 16;node a plain at 0;");
    }

    static void promise03TakesAListOf1To4() {
        for (int number = 0; number <= 9; number++) {
            boolean right = number >= 1 && number <= 4;
            ringFault(right ? 0 : 4, "list ^" + number + ";");
        }
        ringFault(4, "list ^9999;");
        ringFault(1, "list ^-1;");
    }

    static void promise03AListThatIsNotToldIs2() {
        CHECK.due("count", CHECK.ringOf(nodes(4)).count(1), 2);
        CHECK.due("told", CHECK.ringOf(nodes(4) + "list 1;").count(1), 1);
        // not that of the RING ahead
        NameRing ring = CHECK.ringOf("list 4;");
        CHECK.due("again", Check.tellRing(ring, nodes(4)), 0);
        CHECK.due("count", ring.count(1), 2);
    }

    static void promise03AListMayBeToldBehindTheNodes() {
        NameRing ring = CHECK.ringOf(nodes(4) + "list 1;");
        CHECK.dueDeeds(ring, "b0 j10 t1 t0 j20");
        CHECK.dueList(ring, 2, 0);
    }

    static void promise03TakesCircleListAndLiesOnceEach() {
        ringFault(3, "circle 16;^circle 16;");
        ringFault(3, "circle 16;^circle 7;");
        ringFault(3, "circle 16;list 2;^circle");
        ringFault(3, "list 2;^list 2;");
        ringFault(3, "list 2;^list 9;");
        ringFault(3, "list 2;circle 16;^list");
        ringFault(3, "lies told;^lies told;");
        ringFault(3, "lies told;^lies");
        ringFault(3, "lies 0;^lies 0;");
        // the first one is wrong: it is the first token that counts
        ringFault(4, "circle ^7;circle 8;");
        ringFault(1, "circle ^;circle 8;");
    }

    // ---- promise 3: NODES and KEYS

    static void promise03Takes8NodesAndNoNinth() {
        ringFault(0, nodes(8));
        CHECK.due("eight", CHECK.ringOf(nodes(8)).count(2), 8);
        ringFault(5, nodes(8) + "^node x plain at 9;");
        ringFault(5, nodes(8) + "key k at 3;^node x plain at 9;");
    }

    static void promise03ANinthNodeIsWrongAtItsFirstWord() {
        ringFault(5, nodes(8) + "^node");
        ringFault(5, nodes(8) + "^node na plain at 0;");
        ringFault(5, nodes(8) + "^node # ;");
        ringFault(1, nodes(8) + "^nodes");
    }

    static void promise03NumbersNodesAsTold() {
        NameRing ring = CHECK.ringOf("circle 16;node z blind at 9;node y shy at 0;key k at 1;node x short at 15;node w plain at 4;");
        int[] kinds = {3, 2, 1, 0};
        int[] places = {9, 0, 15, 4};
        for (int node = 0; node < 4; node++) {
            CHECK.due("kind " + node, ring.node(node, 0), kinds[node]);
            CHECK.due("place " + node, ring.node(node, 1), places[node]);
        }
    }

    static void promise03TakesFourKinds() {
        ringFault(1, "circle 16;node a ^round at 1;");
        ringFault(1, "circle 16;node a ^at 1;");
        ringFault(1, "circle 16;node a ^not at 1;");
        ringFault(1, "circle 16;node a ^3 at 1;");
        ringFault(1, "circle 16;node a plain ^plain at 1;");
        ringFault(1, "circle 16;node a plain^;");
    }

    static void promise03TakesPlacesFrom0ToBelowTheCircle() {
        for (int circle : new int[] {8, 9, 100, 255, 256}) {
            ringFault(0, "circle " + circle + ";node a plain at 0;node b plain at " + (circle - 1) + ";");
            ringFault(4, "circle " + circle + ";node a plain at ^" + circle + ";");
            ringFault(4, "circle " + circle + ";node a plain at ^9999;");
        }
        ringFault(1, "circle 16;node a plain at ^-1;");
    }

    static void promise03TakesNoTwoNodesAtOnePlace() {
        ringFault(3, "circle 16;node a plain at 3;node b plain at ^3;");
        ringFault(3, "circle 16;node a plain at 0;node b plain at 3;node c plain at ^0000;");
        ringFault(0, "circle 16;node a plain at 3;node b plain at 4;");
        ringFault(0, "circle 16;node a plain at 3;key k at 3;");
    }

    static void promise03Takes10KeysAndNoEleventh() {
        ringFault(0, keys(10));
        CHECK.due("ten", CHECK.ringOf(keys(10)).count(3), 10);
        ringFault(5, keys(10) + "^key x at 1;");
        ringFault(5, keys(10) + "circle 16;^key");
        ringFault(5, keys(10) + "^key ka at 1000;");
        ringFault(1, keys(10) + "^keys");
    }

    static void promise03TakesKeysAt0To999() {
        ringFault(0, "key k at 0;key l at 999;");
        ringFault(4, "key k at ^1000;");
        ringFault(4, "key k at ^9999;");
        ringFault(1, "key k at ^-1;");
        ringFault(0, "circle 8;key k at 8;key l at 999;key m at 8;");
    }

    static void promise03NumbersKeysAsTold() {
        NameRing ring = CHECK.ringOf("key z at 5;circle 16;key y at 3;node a plain at 1;key x at 9;");
        CHECK.due("key 0", ring.key(0, 0), 5);
        CHECK.due("key 1", ring.key(1, 0), 3);
        CHECK.due("key 2", ring.key(2, 0), 9);
    }

    static void promise03TakesNoWordOfTheLanguageAsAName() {
        CHECK.due("22 words", Model.RESERVED.size(), 22);
        for (String word : Model.RESERVED) {
            ringFault(1, "circle 16;node ^" + word + " plain at 3;");
            ringFault(1, "key ^" + word + " at 3;");
        }
    }

    static void promise03TakesAllOtherWordsAsNames() {
        for (String word : new String[] {"told", "which", "nodes", "mend", "start", "undo", "a", "zzzzzzzz", "ats", "circl", "circles"}) {
            ringFault(0, "circle 16;node " + word + " plain at 3;");
            ringFault(0, "key " + word + " at 3;lies told + which + nodes;");
        }
        ringFault(1, "key ^7 at 3;");
        ringFault(1, "key ^; at 3;");
    }

    static void promise03TakesNoNameTwice() {
        ringFault(3, "circle 16;node a plain at 0;node ^a plain at 1;");
        ringFault(3, "key a at 0;key ^a at 1;");
        ringFault(3, "circle 16;node a plain at 0;key ^a at 1;");
        ringFault(3, "circle 16;key a at 0;node ^a plain at 1;");
        // the last one told, and the first one of many
        ringFault(3, nodes(7) + "node ^na plain at 9;");
        ringFault(3, nodes(7) + "node ^ng plain at 9;");
        ringFault(3, keys(9) + "key ^ka at 9;");
        ringFault(3, keys(9) + "key ^ki at 9;");
        // the NAME stands ahead of a PLACE at which a NODE is
        ringFault(3, "circle 16;node a plain at 0;node ^a plain at 0;");
        ringFault(0, "key a at 0;key aa at 0;key aaaaaaaa at 0;key aaaaaaa at 0;");
    }

    // ---- promise 3: laws

    static void promise03APartLiesWithin4OfNotAndBracketsAtMost() {
        for (int pattern = 0; pattern < 16; pattern++) {
            ringFault(0, "lies " + opened(pattern, 4) + "told" + closed(pattern, 4) + ";");
        }
    }

    static void promise03APartWithin5IsOneTooMany() {
        for (int pattern = 0; pattern < 32; pattern++) {
            ringFault(5, "lies " + opened(pattern, 5) + "^told" + closed(pattern, 5) + ";");
            ringFault(5, "lies " + opened(pattern, 5) + "^7" + closed(pattern, 5) + ";");
            ringFault(5, "lies " + opened(pattern, 5) + "^not 7" + closed(pattern, 5) + ";");
            ringFault(5, "lies " + opened(pattern, 5) + "^(7)" + closed(pattern, 5) + ";");
        }
    }

    static void promise03WhatIsNoPartWithin5CantStandThere() {
        for (String wrong : new String[] {")", ";", "and", "+", "<", "abc", "key", "#", "12345", "abcdefghi", ""}) {
            ringFault(1, "lies (((((^" + wrong);
            ringFault(1, "lies not not not not not ^" + wrong);
        }
    }

    static void promise03OnlyWhatIsRoundAPartCounts() {
        ringFault(0, "lies (((1))) + (((2))) * (not not 3) and not not not not 4;");
        ringFault(0, "lies ((((1) + 2) * 3) < 4) or 5;");
        ringFault(0, "lies ((((1 + 2 * 3 < 4 and told))));");
        ringFault(5, "lies ((((1 + not ^2))));");
        // four are round the not, five round its bracket
        ringFault(5, "lies ((((1 + 2 + not ^(2)))));");
        ringFault(0, "lies (((1 + 2 + not 2))) * (((not 2)));");
    }

    /** Of each bit a not or a bracket. */
    private static String opened(int pattern, int many) {
        StringBuilder text = new StringBuilder();
        for (int i = 0; i < many; i++) {
            text.append((pattern >> i & 1) == 1 ? "not " : "( ");
        }
        return text.toString();
    }

    private static String closed(int pattern, int many) {
        return ")".repeat(many - Integer.bitCount(pattern));
    }

    static void promise03ATestHasOneComparisonAtMost() {
        for (String first : new String[] {"<", "="}) {
            for (String second : new String[] {"<", "="}) {
                ringFault(1, "lies 1 " + first + " 2 ^" + second + " 3;");
                ringFault(0, "lies 1 " + first + " 2 and 2 " + second + " 3;");
                ringFault(0, "lies (1 " + first + " 2) " + second + " 3;");
            }
        }
    }

    static void promise03APartIsANumberAFactNotOrBrackets() {
        ringFault(0, "lies 0;");
        for (String fact : new String[] {"told", "which", "circle", "nodes"}) {
            ringFault(0, "lies " + fact + ";");
        }
        for (String wrong : new String[] {"x", "node", "key", "list", "lies", "at", "and", "or", "-", "+", "*", "<", "=", ")", ";", ""}) {
            ringFault(1, "lies ^" + wrong);
            ringFault(1, "lies told * ^" + wrong);
            ringFault(1, "lies not ^" + wrong);
            ringFault(1, "lies (^" + wrong);
        }
        // a NAME that is told is no fact
        ringFault(1, "key k at 1;lies ^k;");
    }

    static void promise03ALawEndsWhereItCantGoOn() {
        for (String wrong : new String[] {"told", "3", "(", ")", "not", "circle", ""}) {
            ringFault(1, "lies told ^" + wrong);
            ringFault(1, "lies (told) ^" + wrong);
        }
        ringFault(1, "lies (told ^;");
        ringFault(1, "lies (told ^told);");
    }

    // ---- promise 3: FAULTS

    static void promise03TellsOfTheFirstWrongTokenFromTheLeft() {
        ringFault(4, "circle ^7;list 9;#");
        ringFault(1, "^# circle 7;");
        ringFault(3, "circle 8;list 2;^list 9;circle 8;");
        ringFault(1, "circle 8;node ^plain plain at 99;");
    }

    static void promise03OfOneTokenTheLeastFaultCounts() {
        // too long a NUMBER is none, whatever it is worth; a word of the language no NAME, even if no KEY, no NODE has it
        ringFault(1, "circle ^00007;");
        workFault(1, "begin ^list;");
        workFault(1, "put ^list a;");
        workFault(1, "begin a;".repeat(40) + "^list;");
        ringFault(1, "lies (((((^)))));");
        // where they can't stand, it does not matter that they are there a second time, told already, or one too many
        ringFault(1, "circle 16;list ^circle;");
        ringFault(1, "list 2;circle ^list;");
        ringFault(1, "lies told;list ^lies;");
        ringFault(1, "key a at 1;^a at 2;");
        ringFault(1, nodes(8) + "list ^node;");
        ringFault(1, keys(10) + "circle ^key;");
        workFault(1, "begin a;".repeat(40) + "^begins a;");
        workFault(1, "begin a;".repeat(39) + "begin a ^begin");
        ringFault(0, "circle 16;lies circle + circle;");
    }

    static void promise03TheEndIsATokenAtTheTextsLength() {
        String[] tokens = {"circle", "16", ";", "node", "a", "plain", "at", "3", ";", "key", "k", "at", "5", ";", "lies", "(", "told",
            "+", "not", "1", ")", "<", "which", "*", "2", ";"};
        StringBuilder text = new StringBuilder();
        for (String token : tokens) {
            text.append(token).append(' ');
            boolean whole = token.equals(";");
            ringFault(whole ? 0 : 1, text + "^");
            ringFault(whole ? 0 : 1, text + "\n  ^");
        }
    }

    static void promise03TheEndOfAFullTapeIsAt1000() {
        NameRing ring = new NameRing();
        Check.feed(ring, "circle 16" + " ".repeat(991) + ";");
        CHECK.due("the sign ; had no room", ring.ring(), 1 + 16 * 1000);
    }

    static void promise03AShorterTextEndsWhereItEnds() {
        NameRing ring = new NameRing();
        CHECK.due("long", Check.tellRing(ring, "9".repeat(40)), 1);
        CHECK.due("a number at the end", Check.tellRing(ring, "list 3"), 1 + 16 * 6);
        CHECK.due("long", Check.tellRing(ring, "z".repeat(40)), 1);
        CHECK.due("a word at the end", Check.tellRing(ring, "key k"), 1 + 16 * 5);
        CHECK.due("long", Check.tellRing(ring, ";".repeat(40)), 1);
        CHECK.due("the end for a sign", Check.tellRing(ring, "list 3"), 1 + 16 * 6);
        CHECK.due("right", Check.tellRing(ring, "list 3;"), 0);
        CHECK.due("a work, too", Check.tellWork(ring, "begin"), 1 + 16 * 5);
    }

    static void promise03AllStaysWithAFault() {
        NameRing ring = CHECK.ringOf(nodes(3) + keys(2) + "list 3;");
        CHECK.due("work", Check.tellWork(ring, "begin na;tidy na;"), 0);
        CHECK.dueDeeds(ring, "b0 j10 p00");
        CHECK.due("see", ring.see(1, 0, true), true);
        CHECK.due("mark", ring.mark(3, false), true);
        CHECK.due("fault", Check.tellRing(ring, "circle 32;list 1;lies 7;node z shy at 5;key y at 1;!"), 1 + 16 * 51);
        int[] due = {16, 3, 3, 2, 3, 1, 2, 1, 3, 0};
        for (int what = 0; what < 10; what++) {
            CHECK.due("count " + what, ring.count(what), due[what]);
        }
        CHECK.due("kind", ring.node(0, 0), 0);
        CHECK.due("place", ring.node(1, 1), 1);
        CHECK.due("lies", ring.key(1, 0), 1);
        CHECK.due("held", ring.key(0, 1), 0);
        CHECK.due("the names, too", Check.tellWork(ring, "begin nc;put kb nb;"), 0);
        CHECK.due("undo", ring.undo(), true);
        CHECK.due("the mark", ring.mark(3, true), true);
        CHECK.due("held on the mark", ring.key(0, 1), 0);
    }

    static void promise03WithoutAFaultAllIsNew() {
        String text = nodes(3) + keys(2);
        NameRing ring = CHECK.ringOf(text);
        CHECK.due("work", Check.tellWork(ring, "begin na;"), 0);
        CHECK.dueDeeds(ring, "b0 j10 t1 t0 m0 p00");
        CHECK.due("see", ring.see(1, 0, true), true);
        for (int mark = 0; mark < 4; mark++) {
            CHECK.due("mark", ring.mark(mark, false), true);
        }
        CHECK.due("the same again", Check.tellRing(ring, text), 0);
        int[] due = {16, 2, 3, 2, 0, 0, 0, 0, 0, 0};
        for (int what = 0; what < 10; what++) {
            CHECK.due("count " + what, ring.count(what), due[what]);
        }
        for (int mark = 0; mark < 4; mark++) {
            CHECK.due("no mark", ring.mark(mark, true), false);
        }
        CHECK.due("no undo", ring.undo(), false);
        CHECK.due("no work", ring.judged(1), 0);
        CHECK.due("lost", ring.lost(), 3);
        CHECK.dueList(ring, 0);
        CHECK.due("finger", ring.finger(0, 0), -1);
        CHECK.due("ahead", ring.node(0, 3), -1);
        CHECK.due("who", ring.who(), 0);
        CHECK.due("begin anew", ring.start(2), true);
    }

    static void promise03TheLastRingsNamesAreGone() {
        NameRing ring = CHECK.ringOf(nodes(3) + keys(2));
        CHECK.due("another", Check.tellRing(ring, "circle 16;node x plain at 0;key nb at 1;"), 0);
        CHECK.due("no such node", Check.tellWork(ring, "begin na;"), 2 + 16 * 6);
        CHECK.due("no node either", Check.tellWork(ring, "begin nb;"), 2 + 16 * 6);
        CHECK.due("no such key", Check.tellWork(ring, "put ka x;"), 2 + 16 * 4);
        CHECK.due("these are", Check.tellWork(ring, "put nb x;"), 0);
    }

    // ---- promise 4

    static void promise04ReadsAnEmptyTapeAsAWorkOfNothing() {
        NameRing ring = CHECK.ringOf(nodes(2));
        CHECK.due("work", Check.tellWork(ring, "begin na;"), 0);
        CHECK.due("lines", ring.count(6), 1);
        CHECK.due("empty", ring.work(), 0);
        CHECK.due("none", ring.count(6), 0);
        CHECK.due("blanks", Check.tellWork(ring, " \n "), 0);
        CHECK.due("without a ring", new NameRing().work(), 0);
    }

    static void promise04TakesTheTape() {
        NameRing ring = CHECK.ringOf(nodes(2));
        CHECK.due("right", Check.tellWork(ring, "begin na;"), 0);
        CHECK.due("empty", ring.count(9), 0);
        CHECK.due("wrong", Check.tellWork(ring, "begin"), 1 + 16 * 5);
        CHECK.due("empty with a fault, too", ring.count(9), 0);
        CHECK.due("the old one stays", ring.count(6), 1);
    }

    static void promise04Takes40LinesAndNo41st() {
        NameRing ring = CHECK.ringOf("circle 16;node a plain at 0;key k at 1;");
        CHECK.dueWorkFault(ring, 0, "tidy a;".repeat(40));
        CHECK.due("lines", ring.count(6), 40);
        CHECK.dueWorkFault(ring, 0, "tidy a;".repeat(39));
        CHECK.due("lines", ring.count(6), 39);
        for (String deed : DEEDS) {
            CHECK.dueWorkFault(ring, 5, "tidy a;".repeat(40) + "^" + deed);
            CHECK.dueWorkFault(ring, 5, "tidy a;".repeat(40) + "^" + deed + " zzz 9;");
        }
        CHECK.dueWorkFault(ring, 1, "tidy a;".repeat(40) + "^tidyy a;");
        CHECK.dueWorkFault(ring, 1, "tidy a;".repeat(40) + "^;");
        CHECK.dueWorkFault(ring, 2, "tidy a;".repeat(39) + "tidy ^z;tidy a;tidy a;");
    }

    static void promise04TakesNamesOfNodesAlone() {
        for (String deed : DEEDS) {
            if (!deed.equals("put")) {
                workFault(2, deed + " ^c");
                workFault(2, deed + " ^k");
                workFault(1, deed + " ^plain");
                workFault(1, deed + " ^3");
                workFault(1, deed + " ^;");
                workFault(1, deed + "^");
            }
        }
        workFault(2, "join a ^c;");
        workFault(2, "join a ^k;");
        workFault(2, "join ^c k;");
        workFault(0, "join a a;");
        workFault(0, "join a b;");
    }

    static void promise04TakesAKeyBehindPut() {
        workFault(0, "put k a;");
        workFault(2, "put ^a k;");
        workFault(2, "put ^a a;");
        workFault(2, "put k ^k;");
        workFault(2, "put k ^c;");
        workFault(2, "put ^l a;");
        workFault(1, "put ^at a;");
        workFault(1, "put k ^at;");
        workFault(1, "put k^;");
    }

    static void promise04TakesFingers0To7() {
        for (int finger = 0; finger <= 9; finger++) {
            workFault(finger <= 7 ? 0 : 4, "fix a ^" + finger + ";");
        }
        workFault(0, "fix a 0007;");
        workFault(4, "fix a ^9999;");
        workFault(1, "fix a ^00000;");
        workFault(1, "fix a^;");
        workFault(1, "fix a ^b;");
        workFault(1, "fix a ^-1;");
        workFault(1, "fix a^");
    }

    static void promise04TakesDeedsAlone() {
        for (String word : new String[] {"circle", "list", "node", "key", "lies", "at", "mend", "start", "undo", "a", "not", "told", "3", ";", "#"}) {
            workFault(1, "^" + word);
            workFault(1, "begin a; ^" + word + " a;");
        }
        for (String deed : DEEDS) {
            ringFault(1, "^" + deed + " a;");
        }
    }

    static void promise04EndsEachLineWithItsSign() {
        workFault(1, "begin a^");
        workFault(1, "begin a ^begin b;");
        workFault(1, "begin a ^b;");
        workFault(1, "hand a ^1;");
        workFault(1, "join a b ^b;");
        workFault(1, "fix a 1 ^1;");
        workFault(1, "begin a;  begin  ^");
        workFault(1, "begin a;^;");
    }

    static void promise04KnowsNoNamesWithoutARing() {
        NameRing ring = new NameRing();
        CHECK.dueWorkFault(ring, 2, "begin ^a;");
        CHECK.dueWorkFault(ring, 2, "put ^k a;");
        CHECK.dueWorkFault(ring, 1, "begin ^at;");
    }

    static void promise04LeavesAllButTheWork() {
        NameRing ring = CHECK.ringOf(nodes(3) + keys(2));
        CHECK.dueDeeds(ring, "b0 j10 p00");
        CHECK.due("see", ring.see(1, 0, true), true);
        CHECK.due("mark", ring.mark(1, false), true);
        CHECK.due("work", Check.tellWork(ring, "begin nb;fail nb;"), 0);
        int[] due = {16, 2, 3, 2, 3, 1, 2, 1, 3, 0};
        for (int what = 0; what < 10; what++) {
            CHECK.due("count " + what, ring.count(what), due[what]);
        }
        CHECK.due("mark", ring.mark(1, true), true);
    }

    static void promise04AWorkTakesThePlaceOfTheOther() {
        NameRing ring = CHECK.ringOf(nodes(3) + keys(2));
        CHECK.due("work", Check.tellWork(ring, "begin na;join nb na;"), 0);
        CHECK.due("in", ring.judged(1), 2);
        CHECK.due("another", Check.tellWork(ring, "begin nb;"), 0);
        CHECK.due("in", ring.judged(1), 1);
        CHECK.due("a wrong one", Check.tellWork(ring, "begin nb;join na nb;join nc nb;x"), 1 + 16 * 31);
        CHECK.due("in", ring.judged(1), 1);
        CHECK.due("lines", ring.count(6), 1);
    }
}
