import java.util.NoSuchElementException;

/**
 * A name ring with successor lists: told in a language, run by hand, and judged.
 * The words in capitals in the comments are those of the document's "Terms".
 */
public final class NameRing {
    public static final int NONE = -1;

    private static final int OTHERS = -2;
    private static final int MOST_SIGNS = 1000;
    private static final int MOST_NODES = 8;
    private static final int MOST_KEYS = 10;
    private static final int MOST_LINES = 40;
    private static final int MOST_SEEN = 8;
    private static final int MOST_STEPS = 20;
    private static final int MOST_ROUNDS = 30;
    private static final int MOST_UNDONE = 16;
    private static final int MARKS = 4;
    private static final int FINGERS = 8;

    private static final int LEAST_CIRCLE = 8;
    private static final int MOST_CIRCLE = 256;
    private static final int LONGEST_LIST = 4;
    private static final int USUAL_LIST = 2;
    private static final int MOST_KEY_PLACE = 999;

    private static final int SHORT = 1;
    private static final int SHY = 2;
    private static final int BLIND = 3;

    /** The words of the language; the facts, which may be NAMES too, stand last. */
    private static final String WORDS = "circle list node key at lies begin join leave fail tidy flush fix put hand plain short shy blind not and or told which nodes";
    private static final int WORD_COUNT = 25;
    private static final int RESERVED_WORDS = 22;
    private static final int WORD_CIRCLE = 0;
    private static final int WORD_LIST = 1;
    private static final int WORD_NODE = 2;
    private static final int WORD_KEY = 3;
    private static final int WORD_AT = 4;
    private static final int WORD_LIES = 5;
    private static final int WORD_BEGIN = 6;
    private static final int WORD_JOIN = 7;
    private static final int WORD_LEAVE = 8;
    private static final int WORD_FAIL = 9;
    private static final int WORD_TIDY = 10;
    private static final int WORD_FLUSH = 11;
    private static final int WORD_FIX = 12;
    private static final int WORD_PUT = 13;
    private static final int WORD_HAND = 14;
    private static final int WORD_PLAIN = 15;
    private static final int WORD_BLIND = 18;
    private static final int WORD_NOT = 19;
    private static final int WORD_AND = 20;
    private static final int WORD_OR = 21;
    private static final int WORD_TOLD = 22;
    private static final int WORD_WHICH = 23;
    private static final int WORD_NODES = 24;

    private static final int FAULT_PLACE = 1;
    private static final int FAULT_UNKNOWN = 2;
    private static final int FAULT_AGAIN = 3;
    private static final int FAULT_NUMBER = 4;
    private static final int FAULT_TOO_MANY = 5;

    private final Tape tape;
    private final Told told;
    private final RingReader reader;
    private final Work work;
    private final Work draft;
    private final State state;
    private final Finder finder;
    private final Deeds deeds;
    private final Looks looks;
    private final Trials trials;
    private final Seen seen;
    private final Past past;

    public NameRing() {
        tape = new Tape();
        told = new Told();
        reader = new RingReader(tape);
        work = new Work();
        draft = new Work();
        state = new State();
        finder = new Finder(told, state);
        deeds = new Deeds(told, state, finder);
        looks = new Looks(told, state, finder);
        trials = new Trials(told, state, deeds, looks);
        seen = new Seen();
        past = new Past();
    }

    public int feed(long a, long b, long c) {
        tape.addBytes(a);
        tape.addBytes(b);
        tape.addBytes(c);
        return tape.length;
    }

    public int ring() {
        int fault = reader.readRing();
        tape.clear();
        if (fault == 0) {
            told.copyFrom(reader.draft);
            state.clear();
            work.clear();
            seen.clear();
            past.clear();
        }
        return fault;
    }

    public int work() {
        int fault = draft.readWork(tape, told);
        tape.clear();
        if (fault == 0) {
            work.copyFrom(draft);
        }
        return fault;
    }

    public int node(int node, int what) {
        if (!told.isNode(node)) {
            return OTHERS;
        }
        switch (what) {
            case 0:
                return told.kinds[node];
            case 1:
                return told.places[node];
            case 2:
                return state.isIn(node) ? 1 : 0;
            case 3:
                return state.aheadOf(node);
            case 4:
                return state.firstOf(node, state.inside);
            case 5:
                return state.heldBy(node);
            default:
                return OTHERS;
        }
    }

    public int listed(int node, int i) {
        return state.listAt(node, i);
    }

    public int finger(int node, int i) {
        return state.fingerAt(node, i);
    }

    public int key(int key, int what) {
        if (!told.isKey(key)) {
            return OTHERS;
        }
        switch (what) {
            case 0:
                return told.lies[key];
            case 1:
                return state.holderOf(key);
            case 2:
                return looks.ownerOf(told.lies[key], state.inside);
            default:
                return OTHERS;
        }
    }

    public boolean start(int node) {
        past.lay(state);
        return past.keepIf(deeds.doBegin(node));
    }

    public int join(int node, int by) {
        past.lay(state);
        return past.keepIf(deeds.doJoin(node, by)) ? state.listAt(node, 0) : NONE;
    }

    public boolean leave(int node) {
        past.lay(state);
        return past.keepIf(deeds.doLeave(node));
    }

    public int fail(int node) {
        past.lay(state);
        return past.keepUnlessNone(deeds.doFail(node));
    }

    public int tidy(int node) {
        past.lay(state);
        return past.keepUnlessNone(deeds.doTidy(node));
    }

    public int flush(int node) {
        past.lay(state);
        return past.keepUnlessNone(deeds.doFlush(node));
    }

    public boolean fix(int node, int finger) {
        past.lay(state);
        return past.keepIf(deeds.doFix(node, finger));
    }

    public int mend(int node) {
        past.lay(state);
        return past.keepUnlessNone(deeds.doMend(node));
    }

    public int put(int key, int by) {
        past.lay(state);
        return past.keepUnlessNone(deeds.doPut(key, by));
    }

    public int hand(int node) {
        past.lay(state);
        return past.keepUnlessNone(deeds.doHand(node));
    }

    public boolean undo() {
        return past.takeBack(state);
    }

    public int judged(int what) {
        return what >= 0 && what <= 2 ? trials.judgeWork(work, what) : OTHERS;
    }

    public int find(int node, int place) {
        return finder.seek(node, place) ? finder.found : NONE;
    }

    public int steps(int node, int place) {
        return finder.seek(node, place) ? finder.taken : NONE;
    }

    public int route(int node, int place, int i) throws NoSuchElementException {
        if (!finder.seek(node, place) || i < 0 || i >= finder.taken || i >= MOST_STEPS) {
            throw new NoSuchElementException();
        }
        return finder.asked[i];
    }

    public int astray() {
        return looks.astrayKeys();
    }

    public int lost() {
        return looks.lostKeys();
    }

    public int cycles(int what) {
        switch (what) {
            case 0:
                return looks.cycleCount();
            case 1:
                return looks.onCycles();
            case 2:
                return looks.hangers();
            case 3:
                return looks.broken();
            default:
                return NONE;
        }
    }

    public boolean ordered() {
        return looks.isOrdered();
    }

    public int amiss() {
        return looks.amissNodes();
    }

    public int behind() {
        return looks.behindNodes();
    }

    public int rests() {
        return trials.roundsTillRest();
    }

    public int after(int rounds, int what) {
        if (rounds < 0 || rounds > MOST_ROUNDS || what < 0 || what > 3) {
            return NONE;
        }
        return trials.afterRounds(rounds, what);
    }

    public int wrongs(int node) {
        return state.isIn(node) ? looks.wrongFingers(node) : NONE;
    }

    public int far(int node) {
        return state.isIn(node) ? looks.mostSteps(node) : NONE;
    }

    public int arc(int node) {
        return state.isIn(node) ? looks.arcOf(node) : NONE;
    }

    public int load(int node) {
        return state.isIn(node) ? looks.ownedBy(node) : NONE;
    }

    public int hosts(int node) {
        return told.isNode(node) ? looks.hostsOf(node) : NONE;
    }

    public int reaches(int node) {
        return state.isIn(node) ? looks.reachedFrom(node) : NONE;
    }

    public int heirs(int key, int i) {
        return told.isKey(key) ? looks.heirOf(key, i) : NONE;
    }

    public int widest() {
        return looks.widestArc();
    }

    public int toil(int node) {
        return state.isIn(node) ? looks.allSteps(node) : NONE;
    }

    public int risk(int many) {
        return many >= 1 && many <= 3 ? looks.riskySets(many) : NONE;
    }

    public int moves(int node) {
        return told.isNode(node) ? looks.movedKeys(node) : NONE;
    }

    public boolean see(int place, int steps, boolean more) {
        if (!told.isPlace(place) || steps < 0 || steps > MOST_STEPS) {
            return false;
        }
        return seen.add(place, steps, more);
    }

    public int who() {
        return seen.suspects(finder, state.inside);
    }

    public int ask() {
        return seen.bestQuestion(finder, state.inside, told.circle);
    }

    public int drives(int seed, int many, int what) {
        if (seed < 0 || seed > 9999 || many < 1 || many > 99 || what < 0 || what > 2) {
            return NONE;
        }
        return trials.drive(seed, many, what);
    }

    public boolean mark(int mark, boolean back) {
        if (mark < 0 || mark >= MARKS) {
            return false;
        }
        if (back) {
            return past.goBack(mark, state, seen);
        }
        past.layMark(mark, state, seen);
        return true;
    }

    public int count(int what) {
        switch (what) {
            case 0:
                return told.circle;
            case 1:
                return told.list;
            case 2:
                return told.nodes;
            case 3:
                return told.keys;
            case 4:
                return state.inside;
            case 5:
                return state.heldKeys();
            case 6:
                return work.lines;
            case 7:
                return seen.many;
            case 8:
                return past.many;
            case 9:
                return tape.length;
            default:
                return NONE;
        }
    }

    /** The TAPE, and the token of it that is being looked at. */
    private static final class Tape {
        static final int END = 0;
        static final int NO_TOKEN = 1;
        static final int WORD = 2;
        static final int NUMBER = 3;
        static final int SIGN = 4;

        private static final int LONGEST_WORD = 8;
        private static final int LONGEST_NUMBER = 4;
        private static final String SIGNS = "()<=+-*;";

        private final char[] signs;
        private final long[] words;
        private int next;
        int length;
        int kind;
        int begin;
        /** A NUMBER's value, a sign's own number, or which of WORDS it is (NONE: another one). */
        int value;
        /** A WORD's letters in one number, so that no text has to be made of them. */
        long letters;
        int fault;

        Tape() {
            signs = new char[MOST_SIGNS];
            words = new long[WORD_COUNT];
            int word = 0;
            for (int i = 0; i < WORDS.length() && word < WORD_COUNT; i++) {
                char sign = WORDS.charAt(i);
                if (sign == ' ') {
                    word++;
                } else {
                    words[word] = words[word] * 32 + (sign - 'a' + 1);
                }
            }
        }

        void addBytes(long bytes) {
            for (int shift = 56; shift >= 0; shift -= 8) {
                int sign = (int) (bytes >>> shift) & 255;
                boolean fits = sign == 10 || sign >= 32 && sign <= 126;
                if (fits && length < MOST_SIGNS) {
                    signs[length] = (char) sign;
                    length++;
                }
            }
        }

        void clear() {
            length = 0;
        }

        void restart() {
            fault = 0;
            goTo(0);
        }

        void goTo(int place) {
            next = place < 0 ? 0 : place;
            step();
        }

        /** Goes on to the next token. */
        void step() {
            while (next < length && (signs[next] == ' ' || signs[next] == 10)) {
                next++;
            }
            begin = next;
            value = 0;
            if (next >= length) {
                kind = END;
            } else if (signs[next] >= 'a' && signs[next] <= 'z') {
                readWord();
            } else if (signs[next] >= '0' && signs[next] <= '9') {
                readNumber();
            } else {
                value = signs[next];
                kind = SIGNS.indexOf(signs[next]) >= 0 ? SIGN : NO_TOKEN;
                next++;
            }
        }

        private void readWord() {
            letters = 0;
            for (; next < length && signs[next] >= 'a' && signs[next] <= 'z'; next++) {
                letters = letters * 32 + (signs[next] - 'a' + 1);
            }
            kind = next - begin <= LONGEST_WORD ? WORD : NO_TOKEN;
            value = NONE;
            for (int i = 0; i < WORD_COUNT; i++) {
                if (words[i] == letters) {
                    value = i;
                }
            }
        }

        private void readNumber() {
            for (; next < length && signs[next] >= '0' && signs[next] <= '9'; next++) {
                value = value * 10 + (signs[next] - '0');
            }
            kind = next - begin <= LONGEST_NUMBER ? NUMBER : NO_TOKEN;
        }

        boolean isSign(char sign) {
            return kind == SIGN && value == sign;
        }

        boolean isWord(int first, int last) {
            return kind == WORD && value >= first && value <= last;
        }

        boolean isName() {
            return kind == WORD && (value < 0 || value >= RESERVED_WORDS);
        }

        /** Only the first FAULT counts: tokens are looked at from the left. Always false. */
        boolean wrong(int faultKind) {
            if (fault == 0) {
                fault = faultKind + 16 * begin;
            }
            return false;
        }

        boolean takeSign(char sign) {
            if (!isSign(sign)) {
                return wrong(FAULT_PLACE);
            }
            step();
            return true;
        }

        boolean takeWord(int word) {
            if (!isWord(word, word)) {
                return wrong(FAULT_PLACE);
            }
            step();
            return true;
        }

        /** The NUMBER here, which is left standing; NONE (and a FAULT) if there is none such. */
        int numberWithin(int least, int most) {
            if (kind != NUMBER) {
                wrong(FAULT_PLACE);
                return NONE;
            }
            if (value < least || value > most) {
                wrong(FAULT_NUMBER);
                return NONE;
            }
            return value;
        }
    }

    /** What a RING tells. */
    private static final class Told {
        int circle;
        int list;
        /** At most MOST_NODES, and MOST_KEYS: the reader refuses more. */
        int nodes;
        int keys;
        final int[] kinds;
        final int[] places;
        final long[] nodeNames;
        final int[] keyPlaces;
        final int[] lies;
        final long[] keyNames;

        Told() {
            list = USUAL_LIST;
            kinds = new int[MOST_NODES];
            places = new int[MOST_NODES];
            nodeNames = new long[MOST_NODES];
            keyPlaces = new int[MOST_KEYS];
            lies = new int[MOST_KEYS];
            keyNames = new long[MOST_KEYS];
        }

        void clear() {
            circle = 0;
            list = USUAL_LIST;
            nodes = 0;
            keys = 0;
        }

        void copyFrom(Told other) {
            circle = other.circle;
            list = other.list;
            nodes = other.nodes;
            keys = other.keys;
            System.arraycopy(other.kinds, 0, kinds, 0, MOST_NODES);
            System.arraycopy(other.places, 0, places, 0, MOST_NODES);
            System.arraycopy(other.nodeNames, 0, nodeNames, 0, MOST_NODES);
            System.arraycopy(other.keyPlaces, 0, keyPlaces, 0, MOST_KEYS);
            System.arraycopy(other.lies, 0, lies, 0, MOST_KEYS);
            System.arraycopy(other.keyNames, 0, keyNames, 0, MOST_KEYS);
        }

        boolean isNode(int node) {
            return node >= 0 && node < nodes;
        }

        boolean isKey(int key) {
            return key >= 0 && key < keys;
        }

        boolean isPlace(int place) {
            return place >= 0 && place < circle;
        }

        int nodeAt(int place) {
            for (int node = 0; node < nodes; node++) {
                if (places[node] == place) {
                    return node;
                }
            }
            return NONE;
        }

        int nodeNamed(long name) {
            for (int node = 0; node < nodes; node++) {
                if (nodeNames[node] == name) {
                    return node;
                }
            }
            return NONE;
        }

        int keyNamed(long name) {
            for (int key = 0; key < keys; key++) {
                if (keyNames[key] == name) {
                    return key;
                }
            }
            return NONE;
        }

        int roomOf(int node) {
            return kinds[node] == SHORT ? 1 : list;
        }

        /** The WAY between two PLACES. */
        int way(int from, int to) {
            int on = to - from;
            return on > 0 ? on : on + circle;
        }

        /** Like the WAY, but 0 if the two PLACES are one. */
        int onward(int from, int to) {
            int on = to - from;
            return on >= 0 ? on : on + circle;
        }

        boolean isBetween(int node, int from, int to) {
            return way(places[from], places[node]) < way(places[from], places[to]);
        }

        /** The PLACE to which a FINGER points; NONE: that is as far as the circle, or farther. */
        int fingerPlace(int node, int finger) {
            int hop = 1 << finger;
            if (hop >= circle) {
                return NONE;
            }
            int place = places[node] + hop;
            return place < circle ? place : place - circle;
        }
    }

    /** Reads the TAPE as a RING, into a draft. */
    private static final class RingReader {
        private static final int LEVEL_ALL = 0;
        private static final int LEVEL_TEST = 1;
        private static final int LEVEL_SUM = 2;
        private static final int LEVEL_PRODUCT = 3;
        private static final int LEVEL_PART = 4;
        private static final int DEEPEST = 5;

        private final Tape tape;
        final Told draft;
        private boolean listTold;
        private int lawBegin;
        private int factKey;

        RingReader(Tape tape) {
            this.tape = tape;
            draft = new Told();
        }

        /** 0, or the FAULT. */
        int readRing() {
            draft.clear();
            listTold = false;
            lawBegin = NONE;
            factKey = 0;
            tape.restart();
            boolean right = true;
            for (int i = 0; i < MOST_SIGNS && right && tape.kind != Tape.END; i++) {
                right = readLine();
            }
            if (right) {
                layKeys();
            }
            return tape.fault;
        }

        private boolean readLine() {
            if (!tape.isWord(WORD_CIRCLE, WORD_LIES)) {
                return tape.wrong(FAULT_PLACE);
            }
            boolean right;
            switch (tape.value) {
                case WORD_CIRCLE:
                    right = readCircle();
                    break;
                case WORD_LIST:
                    right = readList();
                    break;
                case WORD_NODE:
                    right = readNode();
                    break;
                case WORD_KEY:
                    right = readKey();
                    break;
                case WORD_LIES:
                    right = readLaw();
                    break;
                default:
                    right = tape.wrong(FAULT_PLACE);
                    break;
            }
            return right && tape.takeSign(';');
        }

        private boolean readCircle() {
            if (draft.circle != 0) {
                return tape.wrong(FAULT_AGAIN);
            }
            tape.step();
            int number = tape.numberWithin(LEAST_CIRCLE, MOST_CIRCLE);
            if (number == NONE) {
                return false;
            }
            draft.circle = number;
            tape.step();
            return true;
        }

        private boolean readList() {
            if (listTold) {
                return tape.wrong(FAULT_AGAIN);
            }
            tape.step();
            int number = tape.numberWithin(1, LONGEST_LIST);
            if (number == NONE) {
                return false;
            }
            draft.list = number;
            listTold = true;
            tape.step();
            return true;
        }

        private boolean readNode() {
            int node = draft.nodes;
            if (node >= MOST_NODES) {
                return tape.wrong(FAULT_TOO_MANY);
            }
            tape.step();
            if (!isNewName()) {
                return false;
            }
            draft.nodeNames[node] = tape.letters;
            tape.step();
            if (!tape.isWord(WORD_PLAIN, WORD_BLIND)) {
                return tape.wrong(FAULT_PLACE);
            }
            draft.kinds[node] = tape.value - WORD_PLAIN;
            tape.step();
            if (!tape.takeWord(WORD_AT)) {
                return false;
            }
            int place = tape.numberWithin(0, draft.circle - 1);
            if (place == NONE) {
                return false;
            }
            if (draft.nodeAt(place) != NONE) {
                return tape.wrong(FAULT_AGAIN);
            }
            draft.places[node] = place;
            draft.nodes = node + 1;
            tape.step();
            return true;
        }

        private boolean readKey() {
            int key = draft.keys;
            if (key >= MOST_KEYS) {
                return tape.wrong(FAULT_TOO_MANY);
            }
            tape.step();
            if (!isNewName()) {
                return false;
            }
            draft.keyNames[key] = tape.letters;
            tape.step();
            if (!tape.takeWord(WORD_AT)) {
                return false;
            }
            int place = tape.numberWithin(0, MOST_KEY_PLACE);
            if (place == NONE) {
                return false;
            }
            draft.keyPlaces[key] = place;
            draft.keys = key + 1;
            tape.step();
            return true;
        }

        private boolean isNewName() {
            if (!tape.isName()) {
                return tape.wrong(FAULT_PLACE);
            }
            if (draft.nodeNamed(tape.letters) != NONE || draft.keyNamed(tape.letters) != NONE) {
                return tape.wrong(FAULT_AGAIN);
            }
            return true;
        }

        private boolean readLaw() {
            if (lawBegin != NONE) {
                return tape.wrong(FAULT_AGAIN);
            }
            tape.step();
            lawBegin = tape.begin;
            valueOf(LEVEL_ALL, 0);
            return tape.fault == 0;
        }

        /** The law may stand ahead of what it is about: so it is read once more for each KEY, at the end. */
        private void layKeys() {
            for (int key = 0; key < draft.keys; key++) {
                factKey = key;
                int place = draft.keyPlaces[key];
                if (lawBegin != NONE) {
                    tape.goTo(lawBegin);
                    place = valueOf(LEVEL_ALL, 0);
                }
                draft.lies[key] = draft.circle > 0 ? Math.floorMod(place, draft.circle) : 0;
            }
        }

        /** The value of what stands here on a level of the law, within so many of not and ( ). */
        private int valueOf(int level, int depth) {
            if (level >= LEVEL_PART) {
                return partValue(depth);
            }
            int value = valueOf(level + 1, depth);
            for (int i = 0; i < MOST_SIGNS && joinsOn(level); i++) {
                int sign = tape.value;
                tape.step();
                value = joined(sign, value, valueOf(level + 1, depth));
                if (level == LEVEL_TEST) {
                    break;
                }
            }
            return value;
        }

        private boolean joinsOn(int level) {
            if (tape.fault != 0) {
                return false;
            }
            switch (level) {
                case LEVEL_ALL:
                    return tape.isWord(WORD_AND, WORD_OR);
                case LEVEL_TEST:
                    return tape.isSign('<') || tape.isSign('=');
                case LEVEL_SUM:
                    return tape.isSign('+') || tape.isSign('-');
                case LEVEL_PRODUCT:
                    return tape.isSign('*');
                default:
                    return false;
            }
        }

        private static int joined(int sign, int left, int right) {
            switch (sign) {
                case WORD_AND:
                    return left != 0 && right != 0 ? 1 : 0;
                case WORD_OR:
                    return left != 0 || right != 0 ? 1 : 0;
                case '<':
                    return left < right ? 1 : 0;
                case '=':
                    return left == right ? 1 : 0;
                case '+':
                    return left + right;
                case '-':
                    return left - right;
                default:
                    return left * right;
            }
        }

        private int partValue(int depth) {
            if (!beginsPart()) {
                tape.wrong(FAULT_PLACE);
                return 0;
            }
            if (depth >= DEEPEST) {
                tape.wrong(FAULT_TOO_MANY);
                return 0;
            }
            int kind = tape.kind;
            int token = tape.value;
            tape.step();
            if (kind == Tape.NUMBER) {
                return token;
            }
            if (kind == Tape.SIGN) {
                int value = valueOf(LEVEL_ALL, depth + 1);
                // not by takeSign: calls would stand nine deep here
                if (tape.isSign(')')) {
                    tape.step();
                } else {
                    tape.wrong(FAULT_PLACE);
                }
                return value;
            }
            if (token == WORD_NOT) {
                return partValue(depth + 1) == 0 ? 1 : 0;
            }
            return factValue(token);
        }

        private boolean beginsPart() {
            return tape.kind == Tape.NUMBER || tape.isSign('(') || tape.isWord(WORD_NOT, WORD_NOT)
                    || tape.isWord(WORD_CIRCLE, WORD_CIRCLE) || tape.isWord(WORD_TOLD, WORD_NODES);
        }

        private int factValue(int word) {
            switch (word) {
                case WORD_TOLD:
                    return factKey >= 0 && factKey < MOST_KEYS ? draft.keyPlaces[factKey] : 0;
                case WORD_WHICH:
                    return factKey;
                case WORD_CIRCLE:
                    return draft.circle;
                default:
                    return draft.nodes;
            }
        }
    }

    /** The lines of a WORK. */
    private static final class Work {
        final int[] deeds;
        final int[] firsts;
        final int[] seconds;
        int lines;

        Work() {
            deeds = new int[MOST_LINES];
            firsts = new int[MOST_LINES];
            seconds = new int[MOST_LINES];
        }

        void clear() {
            lines = 0;
        }

        void copyFrom(Work other) {
            lines = other.lines;
            System.arraycopy(other.deeds, 0, deeds, 0, MOST_LINES);
            System.arraycopy(other.firsts, 0, firsts, 0, MOST_LINES);
            System.arraycopy(other.seconds, 0, seconds, 0, MOST_LINES);
        }

        /** Reads the TAPE as a WORK: 0, or the FAULT. */
        int readWork(Tape tape, Told told) {
            lines = 0;
            tape.restart();
            boolean right = true;
            for (int i = 0; i < MOST_SIGNS && right && tape.kind != Tape.END; i++) {
                right = readLine(tape, told);
            }
            return tape.fault;
        }

        private boolean readLine(Tape tape, Told told) {
            if (!tape.isWord(WORD_BEGIN, WORD_HAND)) {
                return tape.wrong(FAULT_PLACE);
            }
            int line = lines;
            if (line >= MOST_LINES) {
                return tape.wrong(FAULT_TOO_MANY);
            }
            int deed = tape.value;
            tape.step();
            deeds[line] = deed;
            firsts[line] = readName(tape, told, deed == WORD_PUT);
            seconds[line] = NONE;
            if (tape.fault == 0 && deed == WORD_FIX) {
                seconds[line] = tape.numberWithin(0, FINGERS - 1);
                tape.step();
            } else if (tape.fault == 0 && (deed == WORD_JOIN || deed == WORD_PUT)) {
                seconds[line] = readName(tape, told, false);
            }
            if (tape.fault != 0 || !tape.takeSign(';')) {
                return false;
            }
            lines = line + 1;
            return true;
        }

        /** The number of the KEY, or NODE, whose NAME stands here; NONE, and a FAULT: it is no such NAME. */
        private static int readName(Tape tape, Told told, boolean ofKey) {
            if (!tape.isName()) {
                tape.wrong(FAULT_PLACE);
                return NONE;
            }
            int number = ofKey ? told.keyNamed(tape.letters) : told.nodeNamed(tape.letters);
            if (number == NONE) {
                tape.wrong(FAULT_UNKNOWN);
                return NONE;
            }
            tape.step();
            return number;
        }
    }

    /** Who is IN, and what each NODE has; of one that is OUT all cells are NONE. */
    private static final class State {
        private static final int LISTS = 0;
        private static final int AHEADS = LISTS + MOST_NODES * LONGEST_LIST;
        private static final int FINGER_CELLS = AHEADS + MOST_NODES;
        private static final int HOLDERS = FINGER_CELLS + MOST_NODES * FINGERS;
        private static final int CELLS = HOLDERS + MOST_KEYS;

        private final int[] cells;
        /** Those that are IN, as bits. */
        int inside;

        State() {
            cells = new int[CELLS];
            for (int i = 0; i < CELLS; i++) {
                cells[i] = NONE;
            }
        }

        void clear() {
            inside = 0;
            for (int i = 0; i < CELLS; i++) {
                cells[i] = NONE;
            }
        }

        void copyFrom(State other) {
            inside = other.inside;
            System.arraycopy(other.cells, 0, cells, 0, CELLS);
        }

        boolean isLike(State other) {
            if (inside != other.inside) {
                return false;
            }
            for (int i = 0; i < CELLS; i++) {
                if (cells[i] != other.cells[i]) {
                    return false;
                }
            }
            return true;
        }

        boolean isIn(int node) {
            return node >= 0 && node < MOST_NODES && (inside >> node & 1) == 1;
        }

        int insideCount() {
            return Integer.bitCount(inside);
        }

        void enter(int node) {
            if (node >= 0 && node < MOST_NODES) {
                inside |= 1 << node;
            }
        }

        /** It is OUT then, and has nothing. */
        void goOut(int node) {
            if (node < 0 || node >= MOST_NODES) {
                return;
            }
            inside &= ~(1 << node);
            cells[AHEADS + node] = NONE;
            for (int i = 0; i < LONGEST_LIST; i++) {
                cells[LISTS + node * LONGEST_LIST + i] = NONE;
            }
            for (int i = 0; i < FINGERS; i++) {
                cells[FINGER_CELLS + node * FINGERS + i] = NONE;
            }
        }

        int listAt(int node, int i) {
            if (node < 0 || node >= MOST_NODES || i < 0 || i >= LONGEST_LIST) {
                return NONE;
            }
            return cells[LISTS + node * LONGEST_LIST + i];
        }

        void setList(int node, int i, int other) {
            if (node >= 0 && node < MOST_NODES && i >= 0 && i < LONGEST_LIST) {
                cells[LISTS + node * LONGEST_LIST + i] = other;
            }
        }

        int aheadOf(int node) {
            return node >= 0 && node < MOST_NODES ? cells[AHEADS + node] : NONE;
        }

        void setAhead(int node, int other) {
            if (node >= 0 && node < MOST_NODES) {
                cells[AHEADS + node] = other;
            }
        }

        int fingerAt(int node, int i) {
            if (node < 0 || node >= MOST_NODES || i < 0 || i >= FINGERS) {
                return NONE;
            }
            return cells[FINGER_CELLS + node * FINGERS + i];
        }

        void setFinger(int node, int i, int other) {
            if (node >= 0 && node < MOST_NODES && i >= 0 && i < FINGERS) {
                cells[FINGER_CELLS + node * FINGERS + i] = other;
            }
        }

        int holderOf(int key) {
            return key >= 0 && key < MOST_KEYS ? cells[HOLDERS + key] : NONE;
        }

        void setHolder(int key, int node) {
            if (key >= 0 && key < MOST_KEYS) {
                cells[HOLDERS + key] = node;
            }
        }

        /** Its FIRST, were those IN that the bits tell. */
        int firstOf(int node, int among) {
            for (int i = 0; i < LONGEST_LIST; i++) {
                int other = listAt(node, i);
                if (other != NONE && (among >> other & 1) == 1) {
                    return other;
                }
            }
            return NONE;
        }

        int heldBy(int node) {
            int bits = 0;
            for (int key = 0; key < MOST_KEYS; key++) {
                if (cells[HOLDERS + key] == node) {
                    bits |= 1 << key;
                }
            }
            return bits;
        }

        int heldKeys() {
            int many = 0;
            for (int key = 0; key < MOST_KEYS; key++) {
                if (cells[HOLDERS + key] != NONE) {
                    many++;
                }
            }
            return many;
        }

        void passKeys(int from, int to) {
            for (int key = 0; key < MOST_KEYS; key++) {
                if (cells[HOLDERS + key] == from) {
                    cells[HOLDERS + key] = to;
                }
            }
        }
    }

    /** FINDS, and remembers at whom was asked on. */
    private static final class Finder {
        private final Told told;
        private final State state;
        final int[] asked;
        int found;
        int taken;

        Finder(Told told, State state) {
            this.told = told;
            this.state = state;
            asked = new int[MOST_STEPS];
            found = NONE;
        }

        /** Whether anybody is FOUND. */
        boolean seek(int node, int place) {
            found = NONE;
            taken = 0;
            if (!state.isIn(node) || !told.isPlace(place)) {
                return false;
            }
            int at = node;
            for (int i = 0; i <= MOST_STEPS && at != NONE; i++) {
                int first = state.firstOf(at, state.inside);
                if (first == NONE) {
                    return false;
                }
                int way = told.way(told.places[at], place);
                if (way <= told.way(told.places[at], told.places[first])) {
                    found = first;
                    return true;
                }
                if (i < MOST_STEPS) {
                    at = farthestBelow(at, way);
                    asked[i] = at;
                    taken = i + 1;
                }
            }
            return false;
        }

        /** Of its LIST and FINGERS that are IN the one with the longest WAY that is less than so much. */
        private int farthestBelow(int node, int bound) {
            int best = NONE;
            int longest = 0;
            for (int i = 0; i < LONGEST_LIST + FINGERS; i++) {
                int other = i < LONGEST_LIST ? state.listAt(node, i) : state.fingerAt(node, i - LONGEST_LIST);
                if (state.isIn(other)) {
                    int way = told.way(told.places[node], told.places[other]);
                    if (way < bound && way > longest) {
                        best = other;
                        longest = way;
                    }
                }
            }
            return best;
        }
    }

    /** What NODES do; what can't be changes nothing. */
    private static final class Deeds {
        private final Told told;
        private final State state;
        private final Finder finder;
        private final int[] row;

        Deeds(Told told, State state, Finder finder) {
            this.told = told;
            this.state = state;
            this.finder = finder;
            row = new int[LONGEST_LIST];
        }

        /** Whether the deed of that word can be. */
        boolean doDeed(int word, int first, int second) {
            switch (word) {
                case WORD_BEGIN:
                    return doBegin(first);
                case WORD_JOIN:
                    return doJoin(first, second);
                case WORD_LEAVE:
                    return doLeave(first);
                case WORD_FAIL:
                    return doFail(first) != NONE;
                case WORD_TIDY:
                    return doTidy(first) != NONE;
                case WORD_FLUSH:
                    return doFlush(first) != NONE;
                case WORD_FIX:
                    return doFix(first, second);
                case WORD_PUT:
                    return doPut(first, second) != NONE;
                case WORD_HAND:
                    return doHand(first) != NONE;
                default:
                    return false;
            }
        }

        boolean doBegin(int node) {
            if (!told.isNode(node) || state.inside != 0) {
                return false;
            }
            state.enter(node);
            state.setList(node, 0, node);
            return true;
        }

        boolean doJoin(int node, int by) {
            if (!told.isNode(node) || state.isIn(node) || !finder.seek(by, told.places[node])) {
                return false;
            }
            setListBy(node, finder.found);
            state.enter(node);
            return true;
        }

        boolean doLeave(int node) {
            if (!state.isIn(node)) {
                return false;
            }
            int first = state.firstOf(node, state.inside);
            if (first == NONE || first == node) {
                return false;
            }
            state.passKeys(node, first);
            state.goOut(node);
            return true;
        }

        /** How many KEYS it held. */
        int doFail(int node) {
            if (!state.isIn(node)) {
                return NONE;
            }
            int held = Integer.bitCount(state.heldBy(node));
            state.passKeys(node, NONE);
            state.goOut(node);
            return held;
        }

        /** The first of its LIST then. */
        int doTidy(int node) {
            if (!state.isIn(node)) {
                return NONE;
            }
            int meant = state.firstOf(node, state.inside);
            if (meant == NONE) {
                return NONE;
            }
            int ahead = state.aheadOf(meant);
            if (state.isIn(ahead) && told.isBetween(ahead, node, meant)) {
                meant = ahead;
            }
            setListBy(node, meant);
            if (meant != node) {
                rectify(meant, node);
            }
            return meant;
        }

        /** One is the first of its LIST now, and then that one's LIST. */
        private void setListBy(int node, int first) {
            int room = Math.min(told.roomOf(node), LONGEST_LIST);
            int many = 1;
            row[0] = first;
            for (int i = 0; i < LONGEST_LIST && many < room; i++) {
                int other = state.listAt(first, i);
                if (other != NONE && other != node && other != first) {
                    row[many] = other;
                    many++;
                }
            }
            for (int i = 0; i < LONGEST_LIST; i++) {
                state.setList(node, i, i < many ? row[i] : NONE);
            }
        }

        private void rectify(int meant, int node) {
            int ahead = state.aheadOf(meant);
            if (state.isIn(ahead) && !told.isBetween(node, ahead, meant)) {
                return;
            }
            state.setAhead(meant, node);
            if (told.kinds[node] == SHY) {
                return;
            }
            int from = told.places[node];
            int way = told.way(from, told.places[meant]);
            for (int key = 0; key < told.keys; key++) {
                if (state.holderOf(key) == meant && told.way(from, told.lies[key]) > way) {
                    state.setHolder(key, node);
                }
            }
        }

        /** How many went out of its LIST and FINGERS. */
        int doFlush(int node) {
            if (!state.isIn(node)) {
                return NONE;
            }
            int gone = flushList(node);
            for (int i = 0; i < FINGERS; i++) {
                int other = state.fingerAt(node, i);
                if (other != NONE && !state.isIn(other)) {
                    state.setFinger(node, i, NONE);
                    gone++;
                }
            }
            if (!state.isIn(state.aheadOf(node))) {
                state.setAhead(node, NONE);
            }
            return gone;
        }

        private int flushList(int node) {
            int kept = 0;
            int gone = 0;
            for (int i = 0; i < LONGEST_LIST; i++) {
                int other = state.listAt(node, i);
                state.setList(node, i, NONE);
                if (state.isIn(other)) {
                    state.setList(node, kept, other);
                    kept++;
                } else if (other != NONE) {
                    gone++;
                }
            }
            return gone;
        }

        boolean doFix(int node, int finger) {
            if (!state.isIn(node) || told.kinds[node] == BLIND || finger < 0 || finger >= FINGERS) {
                return false;
            }
            int place = told.fingerPlace(node, finger);
            if (place == NONE) {
                return false;
            }
            finder.seek(node, place);
            state.setFinger(node, finger, finder.found);
            return true;
        }

        /** How many FINGERS are others by it. */
        int doMend(int node) {
            if (!state.isIn(node) || told.kinds[node] == BLIND) {
                return NONE;
            }
            int changed = 0;
            for (int i = 0; i < FINGERS; i++) {
                int before = state.fingerAt(node, i);
                doFix(node, i);
                if (state.fingerAt(node, i) != before) {
                    changed++;
                }
            }
            return changed;
        }

        /** Who holds it now. */
        int doPut(int key, int by) {
            if (!told.isKey(key) || !finder.seek(by, told.lies[key])) {
                return NONE;
            }
            state.setHolder(key, finder.found);
            return finder.found;
        }

        /** How many KEYS went to another one. */
        int doHand(int node) {
            if (!state.isIn(node)) {
                return NONE;
            }
            int gone = 0;
            for (int key = 0; key < told.keys; key++) {
                boolean goes = state.holderOf(key) == node && finder.seek(node, told.lies[key]);
                if (goes && finder.found != node) {
                    state.setHolder(key, finder.found);
                    gone++;
                }
            }
            return gone;
        }

        void doRound() {
            for (int node = 0; node < told.nodes; node++) {
                if (state.isIn(node)) {
                    doFlush(node);
                    doTidy(node);
                }
            }
        }
    }

    /** What can be seen of the RING as it is now; changes nothing. */
    private static final class Looks {
        private final Told told;
        private final State state;
        private final Finder finder;

        Looks(Told told, State state, Finder finder) {
            this.told = told;
            this.state = state;
            this.finder = finder;
        }

        private static boolean has(int bits, int i) {
            return (bits >> i & 1) == 1;
        }

        /** The nearest at or behind a PLACE, were those IN that the bits tell. */
        int ownerOf(int place, int among) {
            int owner = NONE;
            int least = 0;
            for (int node = 0; node < MOST_NODES; node++) {
                if (has(among, node)) {
                    int way = told.onward(place, told.places[node]);
                    if (owner == NONE || way < least) {
                        owner = node;
                        least = way;
                    }
                }
            }
            return owner;
        }

        int astrayKeys() {
            int bits = 0;
            for (int key = 0; key < told.keys; key++) {
                int holder = state.holderOf(key);
                if (holder != NONE && holder != ownerOf(told.lies[key], state.inside)) {
                    bits |= 1 << key;
                }
            }
            return bits;
        }

        int lostKeys() {
            int bits = 0;
            for (int key = 0; key < told.keys; key++) {
                if (state.holderOf(key) == NONE) {
                    bits |= 1 << key;
                }
            }
            return bits;
        }

        int ownedBy(int node) {
            int bits = 0;
            for (int key = 0; key < told.keys; key++) {
                if (ownerOf(told.lies[key], state.inside) == node) {
                    bits |= 1 << key;
                }
            }
            return bits;
        }

        int movedKeys(int node) {
            int many = 0;
            int others = state.inside ^ (1 << node);
            for (int key = 0; key < told.keys; key++) {
                if (ownerOf(told.lies[key], state.inside) != ownerOf(told.lies[key], others)) {
                    many++;
                }
            }
            return many;
        }

        int heirOf(int key, int rank) {
            for (int node = 0; node < MOST_NODES; node++) {
                if (state.isIn(node) && nearerThan(node, told.lies[key]) == rank) {
                    return node;
                }
            }
            return NONE;
        }

        /** How many that are IN come ahead of it, from a PLACE on. */
        private int nearerThan(int node, int place) {
            int bound = told.onward(place, told.places[node]);
            int many = 0;
            for (int other = 0; other < MOST_NODES; other++) {
                if (state.isIn(other) && told.onward(place, told.places[other]) < bound) {
                    many++;
                }
            }
            return many;
        }

        /** Those that come back to themselves, FOLLOWED. */
        int onCycles() {
            int bits = 0;
            for (int node = 0; node < MOST_NODES; node++) {
                int at = node;
                for (int i = 0; i < MOST_NODES && at != NONE; i++) {
                    at = state.firstOf(at, state.inside);
                    if (at == node) {
                        bits |= 1 << node;
                    }
                }
            }
            return bits;
        }

        int broken() {
            int bits = 0;
            for (int node = 0; node < MOST_NODES; node++) {
                int at = node;
                for (int i = 0; i < MOST_NODES && at != NONE; i++) {
                    at = state.firstOf(at, state.inside);
                }
                if (at == NONE && state.isIn(node)) {
                    bits |= 1 << node;
                }
            }
            return bits;
        }

        /** Who never comes to an end comes to a CYCLE. */
        int hangers() {
            return state.inside & ~onCycles() & ~broken();
        }

        /** Each CYCLE is counted at the least number on it. */
        int cycleCount() {
            int many = 0;
            int bits = onCycles();
            for (int node = 0; node < MOST_NODES; node++) {
                if (has(bits, node)) {
                    int least = node;
                    int at = node;
                    for (int i = 0; i < MOST_NODES; i++) {
                        at = state.firstOf(at, state.inside);
                        least = Math.min(least, at);
                    }
                    many += least == node ? 1 : 0;
                }
            }
            return many;
        }

        boolean isOrdered() {
            if (cycleCount() != 1) {
                return false;
            }
            int bits = onCycles();
            int ways = 0;
            for (int node = 0; node < MOST_NODES; node++) {
                int first = state.firstOf(node, state.inside);
                if (has(bits, node) && first != NONE) {
                    ways += told.way(told.places[node], told.places[first]);
                }
            }
            return ways == told.circle;
        }

        /** The other one IN to which the WAY is the least; NONE: there is none. */
        private int nextOf(int node) {
            int next = NONE;
            for (int other = 0; other < MOST_NODES; other++) {
                boolean counts = other != node && state.isIn(other);
                if (counts && (next == NONE || told.isBetween(other, node, next))) {
                    next = other;
                }
            }
            return next;
        }

        /** The other one IN from which the WAY is the least; NONE: there is none. */
        private int previousOf(int node) {
            int previous = NONE;
            for (int other = 0; other < MOST_NODES; other++) {
                boolean counts = other != node && state.isIn(other);
                if (counts && (previous == NONE || told.isBetween(other, previous, node))) {
                    previous = other;
                }
            }
            return previous;
        }

        int amissNodes() {
            int bits = 0;
            for (int node = 0; node < MOST_NODES; node++) {
                if (state.isIn(node)) {
                    int next = nextOf(node);
                    int due = next == NONE ? node : next;
                    bits |= state.firstOf(node, state.inside) == due ? 0 : 1 << node;
                }
            }
            return bits;
        }

        int behindNodes() {
            int bits = 0;
            for (int node = 0; node < MOST_NODES; node++) {
                int previous = previousOf(node);
                if (state.isIn(node) && previous != NONE && state.aheadOf(node) != previous) {
                    bits |= 1 << node;
                }
            }
            return bits;
        }

        int arcOf(int node) {
            int previous = previousOf(node);
            return previous == NONE ? told.circle : told.way(told.places[previous], told.places[node]);
        }

        int widestArc() {
            int widest = NONE;
            int most = 0;
            for (int node = 0; node < MOST_NODES; node++) {
                int arc = state.isIn(node) ? arcOf(node) : 0;
                if (arc > most) {
                    widest = node;
                    most = arc;
                }
            }
            return widest;
        }

        int wrongFingers(int node) {
            int bits = 0;
            for (int i = 0; i < FINGERS; i++) {
                int place = told.fingerPlace(node, i);
                if (place != NONE && state.fingerAt(node, i) != ownerOf(place, state.inside)) {
                    bits |= 1 << i;
                }
            }
            return bits;
        }

        int mostSteps(int node) {
            int most = 0;
            for (int key = 0; key < told.keys; key++) {
                if (finder.seek(node, told.lies[key])) {
                    most = Math.max(most, finder.taken);
                }
            }
            return most;
        }

        int allSteps(int node) {
            int all = 0;
            for (int key = 0; key < told.keys; key++) {
                if (finder.seek(node, told.lies[key])) {
                    all += finder.taken;
                }
            }
            return all;
        }

        int hostsOf(int node) {
            int bits = 0;
            for (int host = 0; host < MOST_NODES; host++) {
                for (int i = 0; i < LONGEST_LIST; i++) {
                    if (state.listAt(host, i) == node) {
                        bits |= 1 << host;
                    }
                }
            }
            return bits;
        }

        private int knownBy(int node) {
            int bits = bitOf(state.aheadOf(node));
            for (int i = 0; i < LONGEST_LIST; i++) {
                bits |= bitOf(state.listAt(node, i));
            }
            for (int i = 0; i < FINGERS; i++) {
                bits |= bitOf(state.fingerAt(node, i));
            }
            return bits & state.inside;
        }

        private static int bitOf(int node) {
            return node == NONE ? 0 : 1 << node;
        }

        int reachedFrom(int node) {
            int bits = 1 << node;
            for (int i = 0; i < MOST_NODES; i++) {
                for (int other = 0; other < MOST_NODES; other++) {
                    bits |= has(bits, other) ? knownBy(other) : 0;
                }
            }
            return bits;
        }

        int riskySets(int many) {
            int sets = 0;
            for (int set = 0; set < 1 << MOST_NODES; set++) {
                boolean counts = (set & ~state.inside) == 0 && Integer.bitCount(set) == many;
                if (counts && leavesOneAlone(state.inside & ~set)) {
                    sets++;
                }
            }
            return sets;
        }

        private boolean leavesOneAlone(int left) {
            for (int node = 0; node < MOST_NODES; node++) {
                if (has(left, node) && state.firstOf(node, left) == NONE) {
                    return true;
                }
            }
            return false;
        }
    }

    /** Tries what would be; all is put back as it was ahead. */
    private static final class Trials {
        private final Told told;
        private final State state;
        private final Deeds deeds;
        private final Looks looks;
        private final State kept;
        private final State before;
        private long drawn;

        Trials(Told told, State state, Deeds deeds, Looks looks) {
            this.told = told;
            this.state = state;
            this.deeds = deeds;
            this.looks = looks;
            kept = new State();
            before = new State();
        }

        int judgeWork(Work work, int what) {
            kept.copyFrom(state);
            state.clear();
            int wrong = NONE;
            for (int line = 0; line < work.lines && line < MOST_LINES; line++) {
                boolean could = deeds.doDeed(work.deeds[line], work.firsts[line], work.seconds[line]);
                if (!could && wrong == NONE) {
                    wrong = line;
                }
            }
            int inside = state.insideCount();
            int held = state.heldKeys();
            state.copyFrom(kept);
            return what == 0 ? wrong : what == 1 ? inside : held;
        }

        int roundsTillRest() {
            kept.copyFrom(state);
            int rest = NONE;
            for (int round = 0; round <= MOST_ROUNDS && rest == NONE; round++) {
                before.copyFrom(state);
                deeds.doRound();
                if (state.isLike(before)) {
                    rest = round;
                }
            }
            state.copyFrom(kept);
            return rest;
        }

        int afterRounds(int rounds, int what) {
            kept.copyFrom(state);
            for (int round = 0; round < rounds; round++) {
                deeds.doRound();
            }
            int answer;
            switch (what) {
                case 0:
                    answer = looks.isOrdered() ? 1 : 0;
                    break;
                case 1:
                    answer = looks.amissNodes();
                    break;
                case 2:
                    answer = looks.behindNodes();
                    break;
                default:
                    answer = looks.astrayKeys();
                    break;
            }
            state.copyFrom(kept);
            return answer;
        }

        int drive(int seed, int many, int what) {
            if (told.circle <= 0 || told.nodes <= 0) {
                return 0;
            }
            kept.copyFrom(state);
            drawn = seed;
            int could = 0;
            for (int i = 0; i < many; i++) {
                could += driveOnce() ? 1 : 0;
            }
            int inside = state.insideCount();
            int amiss = looks.amissNodes();
            state.copyFrom(kept);
            return what == 0 ? could : what == 1 ? inside : amiss;
        }

        private boolean driveOnce() {
            int deed = draw(8);
            int node = draw(told.nodes);
            int other = draw(told.nodes);
            switch (deed) {
                case 0:
                    return deeds.doBegin(node);
                case 1:
                    return deeds.doJoin(node, other);
                case 2:
                    return deeds.doLeave(node);
                case 3:
                    return deeds.doFail(node) != NONE;
                case 4:
                case 5:
                    return deeds.doTidy(node) != NONE;
                case 6:
                    return deeds.doFlush(node) != NONE;
                default:
                    return deeds.doFix(node, draw(FINGERS));
            }
        }

        private int draw(int bound) {
            drawn = (drawn * 1103515245L + 12345L) % 2147483648L;
            return bound <= 0 ? 0 : (int) (drawn / 65536 % bound);
        }
    }

    /** What is SEEN of the unknown one. */
    private static final class Seen {
        private final int[] places;
        private final int[] bounds;
        private final boolean[] mores;
        /** How many of WHO there are with so many STEPS; the last: by whom it is not FOUND. */
        private final int[] groups;
        int many;

        Seen() {
            places = new int[MOST_SEEN];
            bounds = new int[MOST_SEEN];
            mores = new boolean[MOST_SEEN];
            groups = new int[MOST_STEPS + 2];
        }

        void clear() {
            many = 0;
        }

        void copyFrom(Seen other) {
            many = other.many;
            for (int i = 0; i < MOST_SEEN; i++) {
                places[i] = other.places[i];
                bounds[i] = other.bounds[i];
                mores[i] = other.mores[i];
            }
        }

        boolean add(int place, int bound, boolean more) {
            if (many >= MOST_SEEN) {
                return false;
            }
            places[many] = place;
            bounds[many] = bound;
            mores[many] = more;
            many++;
            return true;
        }

        /** WHO. */
        int suspects(Finder finder, int inside) {
            int bits = 0;
            for (int node = 0; node < MOST_NODES; node++) {
                if ((inside >> node & 1) == 1 && fits(finder, node)) {
                    bits |= 1 << node;
                }
            }
            return bits;
        }

        private boolean fits(Finder finder, int node) {
            for (int i = 0; i < many && i < MOST_SEEN; i++) {
                if (!finder.seek(node, places[i]) || mores[i] != (finder.taken >= bounds[i])) {
                    return false;
                }
            }
            return true;
        }

        /** ASK. */
        int bestQuestion(Finder finder, int inside, int circle) {
            int who = suspects(finder, inside);
            int best = NONE;
            int least = Integer.bitCount(who);
            // one of WHO is always together with itself: nothing is less than 1
            for (int place = 0; place < circle && least > 1; place++) {
                int greatest = greatestGroup(finder, who, place);
                if (greatest < least) {
                    best = place;
                    least = greatest;
                }
            }
            return best;
        }

        private int greatestGroup(Finder finder, int who, int place) {
            for (int i = 0; i < MOST_STEPS + 2; i++) {
                groups[i] = 0;
            }
            int greatest = 0;
            for (int node = 0; node < MOST_NODES; node++) {
                if ((who >> node & 1) == 1) {
                    int group = finder.seek(node, place) ? Math.min(finder.taken, MOST_STEPS) : MOST_STEPS + 1;
                    groups[group]++;
                    greatest = Math.max(greatest, groups[group]);
                }
            }
            return greatest;
        }
    }

    /** What can be undone, and the MARKS. */
    private static final class Past {
        /** One more than can be undone: the next one is laid before it is known whether it can be. */
        private static final int SLOTS = MOST_UNDONE + 1;

        private final State[] slots;
        private final State[] markedStates;
        private final Seen[] markedSeen;
        private final boolean[] isMarked;
        private int next;
        int many;

        Past() {
            slots = new State[SLOTS];
            for (int i = 0; i < SLOTS; i++) {
                slots[i] = new State();
            }
            markedStates = new State[MARKS];
            markedSeen = new Seen[MARKS];
            isMarked = new boolean[MARKS];
            for (int i = 0; i < MARKS; i++) {
                markedStates[i] = new State();
                markedSeen[i] = new Seen();
            }
        }

        void clear() {
            many = 0;
            for (int i = 0; i < MARKS; i++) {
                isMarked[i] = false;
            }
        }

        void lay(State now) {
            if (next >= 0 && next < SLOTS) {
                slots[next].copyFrom(now);
            }
        }

        /** What was laid can be undone, if the deed could be. */
        boolean keepIf(boolean could) {
            if (could) {
                next = next + 1 < SLOTS ? next + 1 : 0;
                many = Math.min(many + 1, MOST_UNDONE);
            }
            return could;
        }

        int keepUnlessNone(int answer) {
            keepIf(answer != NONE);
            return answer;
        }

        boolean takeBack(State now) {
            if (many <= 0) {
                return false;
            }
            many--;
            next = next > 0 ? next - 1 : SLOTS - 1;
            now.copyFrom(slots[next]);
            return true;
        }

        void layMark(int mark, State now, Seen seen) {
            markedStates[mark].copyFrom(now);
            markedSeen[mark].copyFrom(seen);
            isMarked[mark] = true;
        }

        boolean goBack(int mark, State now, Seen seen) {
            if (!isMarked[mark]) {
                return false;
            }
            now.copyFrom(markedStates[mark]);
            seen.copyFrom(markedSeen[mark]);
            many = 0;
            return true;
        }
    }
}
