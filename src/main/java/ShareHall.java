import java.util.NoSuchElementException;

/**
 * Parties that reckon together with numbers none of them knows.
 *
 * The shares of a number add up to that number, and an error in what one party sends is in what all
 * parties have then. So each party holds the whole number here in place of its share: nothing that
 * can be asked for depends on how it would be parted, and a mail need not carry anything but its
 * place in the order of its sender's mails.
 */
public final class ShareHall {
    public static final int NONE = -1;

    private static final long P = (1L << 61) - 1;

    private static final int MOST_TAPE = 400;
    private static final int MOST_BYTES = 2000;
    private static final int MOST_OPEN = 20;
    private static final int MOST_DIGITS = 18;
    private static final int MOST_PARTIES = 4;
    private static final int MOST_BOUND = 4;
    private static final int MOST_HALLS = 300;
    private static final int MOST_DEALT = 200;
    private static final int MOST_DEALT_IN_ALL = 3000;
    private static final int MOST_GIVEN = 100;
    private static final int MOST_ERRORS = 40;
    private static final int MOST_SENDS = 1000;
    private static final int MOST_NUMBERS = 32;
    private static final int MOST_STEPS = 30000;
    private static final int MOST_ROUNDS = 2000;
    private static final int MOST_PILE = 64;
    private static final int MOST_KEPT = 16;
    private static final int DIGEST_BYTES = 32;

    private static final int VARIABLES = 13;
    private static final int ARRAYS = 8;
    private static final int CLEAR_ARRAYS = 4;
    private static final int PLACES = 16;
    private static final int FIRST_CELL_ASKED = 100;

    private static final int END = 0;
    private static final int NUMBER = 1;
    private static final int CLEAR = 2;
    private static final int SECRET = 3;
    private static final int PLUS = 4;
    private static final int MINUS = 5;
    private static final int TIMES = 6;
    private static final int TIMES_SECRET = 7;
    private static final int NEGATE = 8;
    private static final int SQUARE = 9;
    private static final int SQUARE_SECRET = 10;
    private static final int TO_CLEAR = 11;
    private static final int TO_SECRET = 12;
    private static final int INPUT = 13;
    private static final int OPEN = 14;
    private static final int SHOW_CLEAR = 15;
    private static final int SHOW_SECRET = 16;
    private static final int UNLESS = 17;
    private static final int GO = 18;
    private static final int PLACE_CLEAR = 19;
    private static final int PLACE_SECRET = 20;
    private static final int TO_PLACE_CLEAR = 21;
    private static final int TO_PLACE_SECRET = 22;
    private static final int ROWS_PLUS = 23;
    private static final int ROWS_MINUS = 24;
    private static final int ROWS_TIMES = 25;
    private static final int ROWS_DOT = 26;
    private static final int BIT = 27;
    private static final int CALL = 28;
    private static final int BACK = 29;

    /** How many bytes each operation has, its first one with them. */
    private static final int[] LENGTHS = {
        1, 9, 2, 2, 1, 1, 1, 1, 1, 1, 1, 2, 2, 3, 3, 2, 2, 4, 3, 2, 2, 2, 2, 4, 4, 4, 3, 2, 3, 1
    };

    private static final int FAULT_CHARACTER = 1;
    private static final int FAULT_SORT = 2;
    private static final int FAULT_SECRET = 3;
    private static final int FAULT_PARTY = 4;
    private static final int FAULT_ROUTINE = 5;

    private static final int REFUSED_FORM = 1;
    private static final int REFUSED_TARGET = 2;
    private static final int REFUSED_PILE = 3;

    private static final int TRIPLES = 0;
    private static final int SQUARES = 1;
    private static final int BITS = 2;
    private static final int STOCKS = 3;

    /** What a step answers; a party's standing has the same numbers, but that it goes on is 1. */
    private static final int WAITS = 0;
    private static final int DONE = 1;
    private static final int GOES_ON = 1;
    private static final int ENDED = 2;
    private static final int FAILED = 3;
    private static final int LACKS = 4;

    private static final int LACKS_INPUT = 1;
    private static final int LACKS_MASK = 2;
    private static final int LACKS_TRIPLES = 3;
    private static final int LACKS_SQUARE = 4;
    private static final int LACKS_PLACE = 5;
    private static final int LACKS_BIT = 6;
    private static final int LACKS_KEPT = 7;

    private static final int CAUSE_CHECK = 1;
    private static final int CAUSE_NOTICE = 2;

    /** Phases of an operation with a send and a receive. */
    private static final int SENDING = 0;
    private static final int RECEIVING = 1;

    /** Phases of putting out: a check has eight, and a secret one has a second check. */
    private static final int BEHIND_CHECK = 8;
    private static final int SHOWN_RECEIVING = 9;
    private static final int SECOND_CHECK = 10;
    private static final int BEHIND_SECOND_CHECK = 18;

    private static final int COINS_BOUND_SEND = 0;
    private static final int COINS_BOUND_RECEIVE = 1;
    private static final int SUMS_BOUND_SEND = 4;
    private static final int SUMS_SHOWN_RECEIVE = 7;

    private static final long OWN_SEED_STRIDE = 1000003L;
    private static final long BITS_SEED_OFFSET = 7000003L;

    private final Row together;
    private final Translator translator;
    private final Verifier verifier;
    private final Hall hall;
    private int hallsMade;
    private int dealtInAll;
    private int faultKind;
    private int faultPlace;

    public ShareHall() {
        together = new Row(MOST_BYTES);
        translator = new Translator();
        verifier = new Verifier();
        hall = new Hall();
    }

    public boolean type(long word, int n) {
        return translator.tape.addWord(word, n, 32, 126);
    }

    public boolean put(long word, int n) {
        return together.addWord(word, n, 0, 255);
    }

    public boolean hall(int parties, long seed, int bound) {
        if (parties < 2 || parties > MOST_PARTIES || bound < 1 || bound > MOST_BOUND) {
            return false;
        }
        if (hallsMade >= MOST_HALLS) {
            return false;
        }
        hallsMade++;
        hall.renew(parties, seed, bound);
        return true;
    }

    public int compile() throws IllegalArgumentException {
        translator.startAnew(hall.size);
        translator.statements();
        translator.finish();
        translator.tape.wipe();
        faultKind = translator.kind;
        faultPlace = translator.place;
        if (faultKind != 0) {
            throw new IllegalArgumentException("the tape has a fault");
        }
        hall.take(translator.draft);
        return hall.code.size;
    }

    public int load() throws IllegalArgumentException {
        boolean good = verifier.lets(together, hall.size);
        faultKind = verifier.kind;
        faultPlace = verifier.place;
        if (!good) {
            together.wipe();
            throw new IllegalArgumentException("the verifier refuses the code");
        }
        hall.take(together);
        together.wipe();
        return verifier.operations;
    }

    public int fault(int what) {
        if (what == 0) {
            return faultKind;
        }
        return what == 1 ? faultPlace : NONE;
    }

    public int code(int i) {
        return hall.code.at(i);
    }

    public int deal(int party, int n) throws IllegalArgumentException {
        boolean masks = hall.has(party);
        int kind = masks ? TRIPLES : -1 - party;
        if (kind < 0 || kind >= STOCKS) {
            throw new IllegalArgumentException("there is no such party or kind");
        }
        int before = masks ? hall.parties[party].stock.masksDealt : hall.dealt[kind];
        if (n < 0 || n > MOST_DEALT - before || n > MOST_DEALT_IN_ALL - dealtInAll) {
            throw new IllegalArgumentException("so many can't be dealt");
        }
        dealtInAll += n;
        if (masks) {
            hall.parties[party].stock.masksDealt += n;
            return hall.parties[party].stock.masksLeft();
        }
        hall.dealt[kind] += n;
        return hall.mostLeft(kind);
    }

    public boolean give(int party, long v) {
        return hall.has(party) && hall.parties[party].stock.addInput(number(v));
    }

    public boolean begin() {
        if (hall.code.size == 0) {
            return false;
        }
        hall.startAnew();
        return true;
    }

    public boolean tamper(int party, int n, int k, long e) {
        if (!hall.running || !hall.has(party) || k < 0 || k >= MOST_NUMBERS) {
            return false;
        }
        if (n < hall.parties[party].post.plainSends || n >= MOST_SENDS) {
            return false;
        }
        return hall.errors.add(party, n, k, number(e));
    }

    public int step(int party) throws IndexOutOfBoundsException, IllegalStateException {
        if (!hall.has(party)) {
            throw new IndexOutOfBoundsException("there is no such party");
        }
        if (hall.stepsInAll >= MOST_STEPS) {
            throw new IllegalStateException("all steps have been done");
        }
        return hall.running ? hall.stepOf(hall.parties[party]) : ENDED;
    }

    public boolean deliver(int from, int to) {
        return hall.running && hall.bring(from, to);
    }

    public int run(int n) throws IllegalArgumentException {
        if (n < 1 || n > MOST_ROUNDS) {
            throw new IllegalArgumentException("there can't be so many rounds");
        }
        int before = hall.stepsInAll;
        boolean moving = hall.running;
        for (int round = 0; round < n && moving; round++) {
            int ahead = hall.stepsInAll;
            for (int i = 0; i < hall.size && hall.stepsInAll < MOST_STEPS; i++) {
                hall.stepOf(hall.parties[i]);
            }
            boolean brought = hall.bringAll();
            moving = brought || hall.stepsInAll > ahead;
        }
        return hall.stepsInAll - before;
    }

    public int party(int party, int what) {
        if (!hall.has(party)) {
            return NONE;
        }
        Party who = hall.parties[party];
        if (what == 5) {
            return who.stock.masksLeft();
        }
        if (what == 6) {
            return who.stock.inputsLeft();
        }
        if (what >= 10 && what < 30) {
            return countMails(who, what < 20, what % 10);
        }
        if (what == 30) {
            return hall.running ? who.memory.keeps : 0;
        }
        if (what < 0 || what > 9) {
            return NONE;
        }
        if (!hall.running) {
            return what == 0 ? ENDED : 0;
        }
        return who.tell(what);
    }

    public long output(int party, int k) throws NoSuchElementException {
        if (!hall.running || !hall.has(party) || k < 0 || k >= hall.parties[party].outCount) {
            throw new NoSuchElementException("no such number was put out");
        }
        return read(hall.parties[party].outs, k);
    }

    public long clear(int party, int v) throws NoSuchElementException {
        if (!hall.running || !hall.has(party)) {
            throw new NoSuchElementException("there is no such party, or no run");
        }
        Memory memory = hall.parties[party].memory;
        if (v >= 0 && v < VARIABLES) {
            return read(memory.clears, v);
        }
        if (v < FIRST_CELL_ASKED || v >= FIRST_CELL_ASKED + CLEAR_ARRAYS * PLACES) {
            throw new NoSuchElementException("there is no such clear number");
        }
        return read(memory.cells, v - FIRST_CELL_ASKED);
    }

    public int bound(int party, int from, int k) throws NoSuchElementException {
        if (!hall.running || !hall.has(party) || !hall.has(from)) {
            throw new NoSuchElementException("there is no such party, or no run");
        }
        if (!hall.parties[party].check.bondsKnown || k < 0 || k >= DIGEST_BYTES) {
            throw new NoSuchElementException("there is no such byte");
        }
        return hall.bondByte(hall.parties[party], from, k);
    }

    public int total(int what) {
        switch (what) {
            case 0:
                return hall.size;
            case 1:
                return hall.mostLeft(TRIPLES);
            case 2:
                return hall.stepsInAll;
            case 3:
                return hall.code.size;
            case 4:
                return hall.mostLeft(SQUARES);
            case 5:
                return hall.bound;
            case 6:
                return hall.mostLeft(BITS);
            default:
                return NONE;
        }
    }

    private int countMails(Party who, boolean outgoing, int other) {
        if (!hall.has(other)) {
            return NONE;
        }
        if (!hall.running || other == who.index) {
            return 0;
        }
        return outgoing ? hall.onWire(who.index, other) : who.post.inbox[other];
    }

    private static long number(long v) {
        return Math.floorMod(v, P);
    }

    private static long plus(long a, long b) {
        long sum = a + b;
        return sum >= P ? sum - P : sum;
    }

    private static long minus(long a, long b) {
        return a >= b ? a - b : a - b + P;
    }

    /** By parts of 31 bits, since a product of two numbers is beyond a long; 2^61 counts as 1. */
    private static long times(long a, long b) {
        long highA = a >>> 31;
        long lowA = a & 0x7fffffffL;
        long highB = b >>> 31;
        long lowB = b & 0x7fffffffL;
        long middle = highA * lowB + lowA * highB;
        long low = lowA * lowB;
        long sum = 2 * highA * highB + (middle >>> 30) + ((middle & 0x3fffffffL) << 31);
        sum += (low & P) + (low >>> 61);
        sum = (sum & P) + (sum >>> 61);
        return sum >= P ? sum - P : sum;
    }

    private static long read(long[] row, int i) {
        return i >= 0 && i < row.length ? row[i] : 0;
    }

    private static void write(long[] row, int i, long v) {
        if (i >= 0 && i < row.length) {
            row[i] = v;
        }
    }

    private static void zeroLongs(long[] row) {
        for (int i = 0; i < row.length; i++) {
            row[i] = 0;
        }
    }

    private static void zeroInts(int[] row) {
        for (int i = 0; i < row.length; i++) {
            row[i] = 0;
        }
    }

    private static int lengthOf(int operation) {
        return operation >= 0 && operation < LENGTHS.length ? LENGTHS[operation] : 0;
    }

    /** A row of bytes that is never longer than the room it was made with. */
    private static final class Row {
        private final int[] bytes;
        private int size;

        Row(int most) {
            bytes = new int[Math.max(most, 0)];
        }

        int at(int i) {
            return i >= 0 && i < size && i < bytes.length ? bytes[i] : NONE;
        }

        void add(int value) {
            if (size < bytes.length) {
                bytes[size] = value & 255;
                size++;
            }
        }

        void change(int i, int value) {
            if (i >= 0 && i < size && i < bytes.length) {
                bytes[i] = value & 255;
            }
        }

        boolean addWord(long word, int n, int least, int most) {
            if (n < 1 || n > 8 || size + n > bytes.length) {
                return false;
            }
            for (int i = 0; i < n; i++) {
                int value = (int) (word >>> 8 * i) & 255;
                if (value < least || value > most) {
                    return false;
                }
            }
            for (int i = n - 1; i >= 0; i--) {
                add((int) (word >>> 8 * i));
            }
            return true;
        }

        int target(int i) {
            return 256 * at(i) + at(i + 1);
        }

        void aim(int i, int target) {
            change(i, target >>> 8);
            change(i + 1, target);
        }

        long longAt(int i) {
            long value = 0;
            for (int k = 0; k < 8; k++) {
                value = value << 8 | at(i + k) & 255;
            }
            return value;
        }

        void copy(Row from) {
            size = 0;
            for (int i = 0; i < from.size; i++) {
                add(from.at(i));
            }
        }

        void wipe() {
            size = 0;
        }
    }

    /**
     * Reads the tape once from the left and writes code while it reads. Once a character can't stand
     * where it is, the translator is stuck and sees nothing but the tape's end, so that all that is
     * open comes to its end by itself.
     */
    private static final class Translator {
        private final Row tape;
        private final Row draft;
        private final int[] toldAt;
        private final int[] doneAt;
        private int parties;
        private int pos;
        private int open;
        private int inside;
        private boolean stuck;
        private int kind;
        private int place;

        Translator() {
            tape = new Row(MOST_TAPE);
            draft = new Row(MOST_BYTES);
            toldAt = new int[10];
            doneAt = new int[10];
        }

        void startAnew(int newParties) {
            parties = newParties;
            pos = 0;
            open = 0;
            inside = 0;
            stuck = false;
            kind = 0;
            place = 0;
            draft.wipe();
            for (int d = 0; d < toldAt.length && d < doneAt.length; d++) {
                toldAt[d] = NONE;
                doneAt[d] = NONE;
            }
        }

        /** A routine may be told behind where it is done, so its calls learn their places last. */
        void finish() {
            if (look() != NONE) {
                refuse();
            }
            emit(END, 0, 0, 0);
            for (int d = 0; d < toldAt.length && d < doneAt.length; d++) {
                if (doneAt[d] != NONE && toldAt[d] == NONE) {
                    blame(FAULT_ROUTINE, doneAt[d]);
                }
            }
            int at = 0;
            for (int i = 0; i < MOST_BYTES && kind == 0 && at < draft.size; i++) {
                int d = draft.at(at + 2);
                if (draft.at(at) == CALL && d >= 0 && d < toldAt.length) {
                    draft.aim(at + 1, toldAt[d]);
                }
                at += lengthOf(draft.at(at));
            }
        }

        void statements() {
            for (int i = 0; i < MOST_TAPE; i++) {
                if (!statement()) {
                    return;
                }
            }
        }

        /** Whether there was one; what else may stand there is for the caller to say. */
        private boolean statement() {
            int c = look();
            if (isVariable(c)) {
                variableStatement(c - 'a', pos);
            } else if (isArray(c)) {
                arrayStatement(c - 'A', pos);
            } else if (c == '>') {
                show();
            } else if (c == '@') {
                routine(pos);
            } else if (c == '?') {
                choice();
            } else if (c == '*') {
                loop();
            } else {
                return false;
            }
            return true;
        }

        private void variableStatement(int v, int at) {
            pass();
            int c = look();
            if (c == '=') {
                pass();
                assign(v, at);
            } else if (c == '<') {
                pass();
                input(v, at);
            } else if (c == ':') {
                pass();
                opening(v, at);
            } else if (c == '!') {
                pass();
                expect(';');
                wantSecret(v, at);
                emit(BIT, v - VARIABLES, 0, 0);
            } else {
                refuse();
            }
        }

        private void assign(int v, int at) {
            if (isArray(look()) && behindNext() == '.') {
                int left = array();
                expect('.');
                int right = array();
                expect(';');
                wantSecret(v, at);
                emit(ROWS_DOT, left, right, 0);
                emit(TO_SECRET, v - VARIABLES, 0, 0);
                return;
            }
            boolean secret = expression();
            expect(';');
            if (v >= VARIABLES) {
                emit(TO_SECRET, v - VARIABLES, 0, 0);
                return;
            }
            if (secret) {
                blame(FAULT_SECRET, at);
            }
            emit(TO_CLEAR, v, 0, 0);
        }

        private void input(int v, int at) {
            look();
            int digitAt = pos;
            int giver = digit();
            expect(';');
            wantSecret(v, at);
            if (giver >= parties) {
                blame(FAULT_PARTY, digitAt);
            }
            emit(INPUT, v - VARIABLES, giver, 0);
        }

        private void opening(int v, int at) {
            look();
            int secretAt = pos;
            int w = variable();
            expect(';');
            wantClear(v, at);
            wantSecret(w, secretAt);
            emit(OPEN, v, w - VARIABLES, 0);
        }

        private void arrayStatement(int array, int at) {
            pass();
            int c = look();
            if (c == '[') {
                index();
                expect('=');
                boolean secret = expression();
                expect(';');
                if (array < CLEAR_ARRAYS && secret) {
                    blame(FAULT_SECRET, at);
                }
                emitPlace(array, TO_PLACE_CLEAR, TO_PLACE_SECRET);
            } else if (c == '=') {
                pass();
                arrayByArray(array, at);
            } else {
                refuse();
            }
        }

        private void arrayByArray(int array, int at) {
            int left = array();
            int c = look();
            if (c == '+' || c == '-' || c == '*') {
                pass();
            } else {
                refuse();
            }
            int right = array();
            expect(';');
            if (array < CLEAR_ARRAYS && (left >= CLEAR_ARRAYS || right >= CLEAR_ARRAYS)) {
                blame(FAULT_SECRET, at);
            }
            int operation = c == '+' ? ROWS_PLUS : c == '-' ? ROWS_MINUS : ROWS_TIMES;
            emit(operation, array, left, right);
        }

        private void show() {
            pass();
            int v = variable();
            expect(';');
            if (v < VARIABLES) {
                emit(SHOW_CLEAR, v, 0, 0);
            } else {
                emit(SHOW_SECRET, v - VARIABLES, 0, 0);
            }
        }

        private void routine(int at) {
            pass();
            int d = digit();
            if (look() == '[' && inside == 0) {
                tell(d, at);
                return;
            }
            expect(';');
            if (d < doneAt.length && doneAt[d] == NONE) {
                doneAt[d] = at;
            }
            emit(CALL, 0, d, 0);
        }

        private void tell(int d, int at) {
            pass();
            inside++;
            int skip = draft.size;
            emit(GO, 0, 0, 0);
            if (d < toldAt.length) {
                if (toldAt[d] != NONE) {
                    blame(FAULT_ROUTINE, at);
                }
                toldAt[d] = draft.size;
            }
            statements();
            expect(']');
            inside--;
            emit(BACK, 0, 0, 0);
            draft.aim(skip + 1, draft.size);
        }

        private void choice() {
            enter();
            int v = decider();
            expect('[');
            inside++;
            int fork = draft.size;
            emit(UNLESS, v, 0, 0);
            statements();
            expect('|');
            int skip = draft.size;
            emit(GO, 0, 0, 0);
            draft.aim(fork + 2, draft.size);
            statements();
            expect(']');
            inside--;
            leave();
            draft.aim(skip + 1, draft.size);
        }

        private void loop() {
            enter();
            int v = decider();
            expect('[');
            inside++;
            int fork = draft.size;
            emit(UNLESS, v, 0, 0);
            statements();
            expect(']');
            inside--;
            leave();
            int again = draft.size;
            emit(GO, 0, 0, 0);
            draft.aim(again + 1, fork);
            draft.aim(fork + 2, draft.size);
        }

        private int decider() {
            look();
            int at = pos;
            int v = variable();
            wantClear(v, at);
            return v;
        }

        /** Whether it is secret; so do all parts of it below. */
        private boolean expression() {
            boolean secret = product();
            for (int i = 0; i < MOST_TAPE && (look() == '+' || look() == '-'); i++) {
                int operation = look() == '+' ? PLUS : MINUS;
                pass();
                boolean right = product();
                emit(operation, 0, 0, 0);
                secret = secret || right;
            }
            return secret;
        }

        private boolean product() {
            boolean secret = factor();
            for (int i = 0; i < MOST_TAPE && look() == '*'; i++) {
                pass();
                boolean right = factor();
                emit(secret && right ? TIMES_SECRET : TIMES, 0, 0, 0);
                secret = secret || right;
            }
            return secret;
        }

        private boolean factor() {
            if (look() == '-') {
                enter();
                boolean negated = factor();
                leave();
                emit(NEGATE, 0, 0, 0);
                return negated;
            }
            boolean secret = atom();
            for (int i = 0; i < MOST_TAPE && look() == '^'; i++) {
                pass();
                emit(secret ? SQUARE_SECRET : SQUARE, 0, 0, 0);
            }
            return secret;
        }

        private boolean atom() {
            int c = look();
            if (isVariable(c)) {
                pass();
                int v = c - 'a';
                emit(v < VARIABLES ? CLEAR : SECRET, v < VARIABLES ? v : v - VARIABLES, 0, 0);
                return v >= VARIABLES;
            }
            if (isArray(c)) {
                pass();
                index();
                emitPlace(c - 'A', PLACE_CLEAR, PLACE_SECRET);
                return c - 'A' >= CLEAR_ARRAYS;
            }
            if (c == '(') {
                enter();
                boolean secret = expression();
                expect(')');
                leave();
                return secret;
            }
            if (isDigit(c)) {
                literal();
            } else {
                refuse();
            }
            return false;
        }

        private void index() {
            if (look() != '[') {
                refuse();
            }
            int at = pos;
            enter();
            boolean secret = expression();
            expect(']');
            leave();
            if (secret) {
                blame(FAULT_SECRET, at);
            }
        }

        /**
         * Looks at the very next characters, since a blank ends a number. A nineteenth digit is left
         * to whoever looks next: none can stand behind a number.
         */
        private void literal() {
            long value = 0;
            for (int i = 0; i < MOST_DIGITS && isDigit(tape.at(pos)); i++) {
                value = 10 * value + tape.at(pos) - '0';
                pos++;
            }
            draft.add(NUMBER);
            for (int shift = 56; shift >= 0; shift -= 8) {
                draft.add((int) (value >>> shift));
            }
        }

        /** Passes what opens one of those of which at most twenty others may be open. */
        private void enter() {
            if (open >= MOST_OPEN) {
                refuse();
            }
            open++;
            pass();
        }

        private void leave() {
            open--;
        }

        private int variable() {
            int c = look();
            if (!isVariable(c)) {
                refuse();
                return 0;
            }
            pass();
            return c - 'a';
        }

        private int array() {
            int c = look();
            if (!isArray(c)) {
                refuse();
                return 0;
            }
            pass();
            return c - 'A';
        }

        private int digit() {
            int c = look();
            if (!isDigit(c)) {
                refuse();
                return 0;
            }
            pass();
            return c - '0';
        }

        private int look() {
            for (int i = 0; i < MOST_TAPE && tape.at(pos) == ' '; i++) {
                pos++;
            }
            return stuck ? NONE : tape.at(pos);
        }

        private int behindNext() {
            int at = pos + 1;
            for (int i = 0; i < MOST_TAPE && tape.at(at) == ' '; i++) {
                at++;
            }
            return tape.at(at);
        }

        private void pass() {
            if (!stuck) {
                pos++;
            }
        }

        private void expect(int c) {
            if (look() == c) {
                pass();
            } else {
                refuse();
            }
        }

        private void refuse() {
            if (!stuck) {
                stuck = true;
                kind = FAULT_CHARACTER;
                place = pos;
            }
        }

        private void wantClear(int v, int at) {
            if (v >= VARIABLES) {
                blame(FAULT_SORT, at);
            }
        }

        private void wantSecret(int v, int at) {
            if (v < VARIABLES) {
                blame(FAULT_SORT, at);
            }
        }

        private void blame(int newKind, int at) {
            if (stuck) {
                return;
            }
            if (kind == 0 || at < place || at == place && newKind < kind) {
                kind = newKind;
                place = at;
            }
        }

        private void emit(int operation, int p, int q, int r) {
            int length = lengthOf(operation);
            draft.add(operation);
            if (length > 1) {
                draft.add(p);
            }
            if (length > 2) {
                draft.add(q);
            }
            if (length > 3) {
                draft.add(r);
            }
        }

        private void emitPlace(int array, int clearOne, int secretOne) {
            if (array < CLEAR_ARRAYS) {
                emit(clearOne, array, 0, 0);
            } else {
                emit(secretOne, array - CLEAR_ARRAYS, 0, 0);
            }
        }

        private static boolean isVariable(int c) {
            return c >= 'a' && c <= 'z';
        }

        private static boolean isArray(int c) {
            return c >= 'A' && c <= 'H';
        }

        private static boolean isDigit(int c) {
            return c >= '0' && c <= '9';
        }
    }

    /** Says whether code can neither leak nor go wrong. */
    private static final class Verifier {
        private final boolean[] begins;
        private final boolean[] targets;
        private final boolean[] secrets;
        private int height;
        private int operations;
        private int kind;
        private int place;

        Verifier() {
            begins = new boolean[MOST_BYTES];
            targets = new boolean[MOST_BYTES];
            secrets = new boolean[MOST_PILE];
        }

        boolean lets(Row bytes, int parties) {
            for (int i = 0; i < MOST_BYTES; i++) {
                begins[i] = false;
                targets[i] = false;
            }
            height = 0;
            operations = 0;
            kind = 0;
            place = 0;
            findOperations(bytes, parties);
            if (kind == 0) {
                findTargets(bytes);
            }
            if (kind == 0) {
                followPile(bytes);
            }
            return kind == 0;
        }

        private void refuse(int newKind, int at) {
            kind = newKind;
            place = at;
        }

        private void findOperations(Row bytes, int parties) {
            int last = NONE;
            int at = 0;
            for (int i = 0; i < MOST_BYTES && at < bytes.size; i++) {
                last = bytes.at(at);
                int length = lengthOf(last);
                if (length == 0 || at + length > bytes.size || !namesWhatIs(bytes, at, parties)) {
                    refuse(REFUSED_FORM, at);
                    return;
                }
                mark(begins, at);
                operations++;
                at += length;
            }
            if (last != END) {
                refuse(REFUSED_FORM, bytes.size);
            }
        }

        private static boolean namesWhatIs(Row bytes, int at, int parties) {
            int p = bytes.at(at + 1);
            int q = bytes.at(at + 2);
            switch (bytes.at(at)) {
                case NUMBER:
                    long value = bytes.longAt(at + 1);
                    return value >= 0 && value < P;
                case CLEAR:
                case SECRET:
                case TO_CLEAR:
                case TO_SECRET:
                case SHOW_CLEAR:
                case SHOW_SECRET:
                case UNLESS:
                case BIT:
                    return p < VARIABLES;
                case INPUT:
                    return p < VARIABLES && q < parties;
                case OPEN:
                    return p < VARIABLES && q < VARIABLES;
                case PLACE_CLEAR:
                case PLACE_SECRET:
                case TO_PLACE_CLEAR:
                case TO_PLACE_SECRET:
                    return p < CLEAR_ARRAYS;
                case ROWS_PLUS:
                case ROWS_MINUS:
                case ROWS_TIMES:
                    return p < ARRAYS && q < ARRAYS && bytes.at(at + 3) < ARRAYS;
                case ROWS_DOT:
                    return p < ARRAYS && q < ARRAYS;
                default:
                    return true;
            }
        }

        private void findTargets(Row bytes) {
            for (int at = 0; at < bytes.size; at++) {
                int operation = isMarked(begins, at) ? bytes.at(at) : NONE;
                if (operation == UNLESS || operation == GO || operation == CALL) {
                    int target = bytes.target(operation == UNLESS ? at + 2 : at + 1);
                    if (!isMarked(begins, target)) {
                        refuse(REFUSED_TARGET, at);
                        return;
                    }
                    mark(targets, target);
                }
            }
        }

        private void followPile(Row bytes) {
            for (int at = 0; at < bytes.size; at++) {
                if (!isMarked(begins, at)) {
                    continue;
                }
                if (isMarked(targets, at) && height > 0 || !fits(bytes, at)) {
                    refuse(REFUSED_PILE, at);
                    return;
                }
            }
        }

        private boolean fits(Row bytes, int at) {
            switch (bytes.at(at)) {
                case END:
                case UNLESS:
                case GO:
                case CALL:
                case BACK:
                    return height == 0;
                case NUMBER:
                case CLEAR:
                    return pushes(false);
                case SECRET:
                case ROWS_DOT:
                    return pushes(true);
                case PLUS:
                case MINUS:
                    return height >= 2 && joins();
                case TIMES:
                    return height >= 2 && !(isSecret(1) && isSecret(2)) && joins();
                case TIMES_SECRET:
                    return height >= 2 && isSecret(1) && isSecret(2) && joins();
                case NEGATE:
                    return height >= 1;
                case SQUARE:
                case PLACE_CLEAR:
                    return height >= 1 && !isSecret(1);
                case SQUARE_SECRET:
                    return height >= 1 && isSecret(1);
                case PLACE_SECRET:
                    return height >= 1 && !isSecret(1) && drops(1) && pushes(true);
                case TO_CLEAR:
                    return height >= 1 && !isSecret(1) && drops(1);
                case TO_SECRET:
                    return height >= 1 && drops(1);
                case TO_PLACE_CLEAR:
                    return height >= 2 && !isSecret(1) && !isSecret(2) && drops(2);
                case TO_PLACE_SECRET:
                    return height >= 2 && !isSecret(2) && drops(2);
                case ROWS_PLUS:
                case ROWS_MINUS:
                case ROWS_TIMES:
                    return keepsSecret(bytes, at);
                default:
                    return true;
            }
        }

        private static boolean keepsSecret(Row bytes, int at) {
            boolean secret = bytes.at(at + 2) >= CLEAR_ARRAYS || bytes.at(at + 3) >= CLEAR_ARRAYS;
            return bytes.at(at + 1) >= CLEAR_ARRAYS || !secret;
        }

        /** The latest one is 1, the one below it 2. */
        private boolean isSecret(int fromTop) {
            return isMarked(secrets, height - fromTop);
        }

        private boolean pushes(boolean secret) {
            if (height < 0 || height >= secrets.length) {
                return false;
            }
            secrets[height] = secret;
            height++;
            return true;
        }

        private boolean drops(int n) {
            height -= n;
            return true;
        }

        private boolean joins() {
            boolean secret = isSecret(1) || isSecret(2);
            return drops(2) && pushes(secret);
        }

        private static void mark(boolean[] row, int i) {
            if (i >= 0 && i < row.length) {
                row[i] = true;
            }
        }

        private static boolean isMarked(boolean[] row, int i) {
            return i >= 0 && i < row.length && row[i];
        }
    }

    /** The digest of two longs, and the generators that are made of it. */
    private static final class Digest {
        private static final int[] ROUNDS = {
            0x428a2f98, 0x71374491, 0xb5c0fbcf, 0xe9b5dba5, 0x3956c25b, 0x59f111f1, 0x923f82a4, 0xab1c5ed5,
            0xd807aa98, 0x12835b01, 0x243185be, 0x550c7dc3, 0x72be5d74, 0x80deb1fe, 0x9bdc06a7, 0xc19bf174,
            0xe49b69c1, 0xefbe4786, 0x0fc19dc6, 0x240ca1cc, 0x2de92c6f, 0x4a7484aa, 0x5cb0a9dc, 0x76f988da,
            0x983e5152, 0xa831c66d, 0xb00327c8, 0xbf597fc7, 0xc6e00bf3, 0xd5a79147, 0x06ca6351, 0x14292967,
            0x27b70a85, 0x2e1b2138, 0x4d2c6dfc, 0x53380d13, 0x650a7354, 0x766a0abb, 0x81c2c92e, 0x92722c85,
            0xa2bfe8a1, 0xa81a664b, 0xc24b8b70, 0xc76c51a3, 0xd192e819, 0xd6990624, 0xf40e3585, 0x106aa070,
            0x19a4c116, 0x1e376c08, 0x2748774c, 0x34b0bcb5, 0x391c0cb3, 0x4ed8aa4a, 0x5b9cca4f, 0x682e6ff3,
            0x748f82ee, 0x78a5636f, 0x84c87814, 0x8cc70208, 0x90befffa, 0xa4506ceb, 0xbef9a3f7, 0xc67178f2
        };

        private static final int[] FIRST = {
            0x6a09e667, 0xbb67ae85, 0x3c6ef372, 0xa54ff53a, 0x510e527f, 0x9b05688c, 0x1f83d9ab, 0x5be0cd19
        };

        private final int[] w;
        private final int[] words;

        Digest() {
            w = new int[64];
            words = new int[8];
        }

        long next(long seed, long i) {
            spread(seed, i);
            stir();
            return (((long) words[0] << 32 | words[1] & 0xffffffffL) >>> 3) % P;
        }

        int byteOf(long x, long y, int k) {
            spread(x, y);
            stir();
            int word = k >> 2;
            return word >= 0 && word < words.length ? words[word] >>> 24 - 8 * (k & 3) & 255 : 0;
        }

        private void spread(long x, long y) {
            for (int t = 5; t < 15; t++) {
                w[t] = 0;
            }
            w[0] = (int) (x >>> 32);
            w[1] = (int) x;
            w[2] = (int) (y >>> 32);
            w[3] = (int) y;
            w[4] = 0x80000000;
            w[15] = 128;
            for (int t = 16; t < 64; t++) {
                int late = w[t - 2];
                int early = w[t - 15];
                int turnedLate = (late >>> 17 | late << 15) ^ (late >>> 19 | late << 13) ^ late >>> 10;
                int turnedEarly = (early >>> 7 | early << 25) ^ (early >>> 18 | early << 14) ^ early >>> 3;
                w[t] = turnedLate + w[t - 7] + turnedEarly + w[t - 16];
            }
        }

        private void stir() {
            for (int i = 0; i < 8; i++) {
                words[i] = FIRST[i];
            }
            for (int t = 0; t < 64; t++) {
                int a = words[0];
                int e = words[4];
                int turnedE = (e >>> 6 | e << 26) ^ (e >>> 11 | e << 21) ^ (e >>> 25 | e << 7);
                int chosen = e & words[5] ^ ~e & words[6];
                int first = words[7] + turnedE + chosen + ROUNDS[t] + w[t];
                int turnedA = (a >>> 2 | a << 30) ^ (a >>> 13 | a << 19) ^ (a >>> 22 | a << 10);
                int most = a & words[1] ^ a & words[2] ^ words[1] & words[2];
                for (int i = 7; i > 0; i--) {
                    words[i] = words[i - 1];
                }
                words[4] += first;
                words[0] = first + turnedA + most;
            }
            for (int i = 0; i < 8; i++) {
                words[i] += FIRST[i];
            }
        }
    }

    /** What a party reckons with: variables, arrays, the pile and the places that are kept. */
    private static final class Memory {
        private final long[] clears;
        private final long[] secrets;
        private final long[] cells;
        private final long[] pile;
        private final int[] kept;
        private int height;
        private int keeps;

        Memory() {
            clears = new long[VARIABLES];
            secrets = new long[VARIABLES];
            cells = new long[ARRAYS * PLACES];
            pile = new long[MOST_PILE];
            kept = new int[MOST_KEPT];
        }

        void wipe() {
            zeroLongs(clears);
            zeroLongs(secrets);
            zeroLongs(cells);
            height = 0;
            keeps = 0;
        }

        void push(long v) {
            if (height >= 0 && height < pile.length) {
                pile[height] = v;
                height++;
            }
        }

        long pop() {
            if (height <= 0 || height > pile.length) {
                return 0;
            }
            height--;
            return pile[height];
        }

        long fromTop(int n) {
            return read(pile, height - n);
        }

        long cell(int array, long i) {
            return i >= 0 && i < PLACES ? read(cells, PLACES * array + (int) i) : 0;
        }

        void setCell(int array, long i, long v) {
            if (i >= 0 && i < PLACES) {
                write(cells, PLACES * array + (int) i, v);
            }
        }

        void keep(int at) {
            if (keeps >= 0 && keeps < kept.length) {
                kept[keeps] = at;
                keeps++;
            }
        }

        int lastKept() {
            if (keeps <= 0 || keeps > kept.length) {
                return 0;
            }
            keeps--;
            return kept[keeps];
        }
    }

    /**
     * What a party remembers for its checks. Of the numbers that were opened only those with an error
     * are kept, since the others add nothing to the sum.
     */
    private static final class Check {
        private final int[] errorAt;
        private final long[] errorOf;
        private final int[] coinAt;
        private int errors;
        private int opened;
        private int through;
        private int drawn;
        private int ownCoinAt;
        private boolean bondsKnown;

        Check() {
            errorAt = new int[MOST_ERRORS];
            errorOf = new long[MOST_ERRORS];
            coinAt = new int[MOST_PARTIES];
        }

        void startAnew() {
            through = 0;
            bondsKnown = false;
            forget();
        }

        void forget() {
            errors = 0;
            opened = 0;
        }

        void note(long error) {
            if (error != 0 && errors >= 0 && errors < errorAt.length && errors < errorOf.length) {
                errorAt[errors] = opened;
                errorOf[errors] = error;
                errors++;
            }
            opened++;
        }

        void drawCoinAndNonce() {
            ownCoinAt = drawn;
            drawn += 2;
        }

        void drawNonce() {
            drawn++;
        }
    }

    /** What a party was given and what it took of what was dealt, in one hall. */
    private static final class Stock {
        private final long[] inputs;
        private final int[] taken;
        private int given;
        private int inputsTaken;
        private int masksDealt;
        private int masksTaken;

        Stock() {
            inputs = new long[MOST_GIVEN];
            taken = new int[STOCKS];
        }

        void wipe() {
            zeroInts(taken);
            given = 0;
            inputsTaken = 0;
            masksDealt = 0;
            masksTaken = 0;
        }

        boolean addInput(long v) {
            if (given < 0 || given >= inputs.length) {
                return false;
            }
            inputs[given] = v;
            given++;
            return true;
        }

        int inputsLeft() {
            return given - inputsTaken;
        }

        int masksLeft() {
            return masksDealt - masksTaken;
        }
    }

    /**
     * A party's ends of its wires. A mail is just counted: the next one that a party takes from
     * another is always the next that the other one sent, and its errors are found by its number.
     */
    private static final class Post {
        private final int[] outbox;
        private final boolean[] notices;
        private final int[] inbox;
        private final int[] plainTaken;
        private final int[] inputAt;
        private int sends;
        private int plainSends;
        private int receives;
        private boolean noticed;

        Post() {
            outbox = new int[MOST_PARTIES];
            notices = new boolean[MOST_PARTIES];
            inbox = new int[MOST_PARTIES];
            plainTaken = new int[MOST_PARTIES];
            inputAt = new int[MOST_PARTIES];
        }

        void wipe() {
            zeroInts(outbox);
            zeroInts(inbox);
            zeroInts(plainTaken);
            for (int i = 0; i < notices.length; i++) {
                notices[i] = false;
            }
            sends = 0;
            plainSends = 0;
            receives = 0;
            noticed = false;
        }
    }

    /** One who reckons. */
    private static final class Party {
        private final int index;
        private final Memory memory;
        private final Check check;
        private final Stock stock;
        private final Post post;
        private long[] outs;
        private int outCount;
        private long shown;
        private int position;
        private int phase;
        private int standing;
        private int cause;
        private int lack;
        private int steps;

        Party(int index) {
            this.index = index;
            memory = new Memory();
            check = new Check();
            stock = new Stock();
            post = new Post();
            outs = new long[16];
        }

        void startAnew() {
            memory.wipe();
            check.startAnew();
            post.wipe();
            outCount = 0;
            cause = 0;
            lack = 0;
            steps = 0;
        }

        /** Each number that is put out is a step, so the row need not be longer than all steps. */
        void putOut(long v) {
            if (outCount >= outs.length && outs.length < MOST_STEPS) {
                long[] longer = new long[2 * outs.length];
                System.arraycopy(outs, 0, longer, 0, outs.length);
                outs = longer;
            }
            write(outs, outCount, v);
            outCount++;
        }

        int tell(int what) {
            switch (what) {
                case 0:
                    return standing;
                case 1:
                    return steps;
                case 2:
                    return post.sends;
                case 3:
                    return post.receives;
                case 4:
                    return outCount;
                case 7:
                    return lack;
                case 8:
                    return check.through;
                case 9:
                    return cause;
                default:
                    return NONE;
            }
        }
    }

    /** The errors that were told of for this run. */
    private static final class Errors {
        private final int[] sender;
        private final int[] send;
        private final int[] number;
        private final long[] error;
        private int count;

        Errors() {
            sender = new int[MOST_ERRORS];
            send = new int[MOST_ERRORS];
            number = new int[MOST_ERRORS];
            error = new long[MOST_ERRORS];
        }

        void wipe() {
            count = 0;
        }

        boolean add(int party, int n, int k, long e) {
            if (count < 0 || count >= MOST_ERRORS) {
                return false;
            }
            sender[count] = party;
            send[count] = n;
            number[count] = k;
            error[count] = e;
            count++;
            return true;
        }

        long sum(int party, int n, int k) {
            long all = 0;
            for (int i = 0; i < count && i < MOST_ERRORS; i++) {
                if (sender[i] == party && send[i] == n && number[i] == k) {
                    all = plus(all, error[i]);
                }
            }
            return all;
        }
    }

    /** The parties, their wires, what is dealt to them, and the run of the code. */
    private static final class Hall {
        private final Row code;
        private final Party[] parties;
        private final int[] dealt;
        private final Errors errors;
        private final Digest digest;
        private final long[] mistakes;
        private int size;
        private long seed;
        private int bound;
        private boolean running;
        private int stepsInAll;

        Hall() {
            code = new Row(MOST_BYTES);
            parties = new Party[MOST_PARTIES];
            for (int i = 0; i < MOST_PARTIES; i++) {
                parties[i] = new Party(i);
            }
            dealt = new int[STOCKS];
            errors = new Errors();
            digest = new Digest();
            mistakes = new long[MOST_NUMBERS];
            size = 2;
            bound = 1;
        }

        void renew(int newSize, long newSeed, int newBound) {
            size = newSize;
            seed = newSeed;
            bound = newBound;
            running = false;
            code.wipe();
            zeroInts(dealt);
            for (int i = 0; i < MOST_PARTIES; i++) {
                parties[i].stock.wipe();
                parties[i].check.drawn = 0;
            }
        }

        /** A run of other code is none any more. */
        void take(Row bytes) {
            running = false;
            code.copy(bytes);
        }

        boolean has(int party) {
            return party >= 0 && party < size && party < parties.length;
        }

        int mostLeft(int kind) {
            int most = 0;
            for (int i = 0; i < size; i++) {
                most = Math.max(most, left(parties[i], kind));
            }
            return most;
        }

        private int left(Party who, int kind) {
            return kind >= 0 && kind < STOCKS ? dealt[kind] - who.stock.taken[kind] : 0;
        }

        void startAnew() {
            for (int kind = 0; kind < STOCKS; kind++) {
                evenOut(kind);
            }
            errors.wipe();
            running = true;
            for (int i = 0; i < size; i++) {
                Party who = parties[i];
                who.startAnew();
                for (int j = 0; j < size; j++) {
                    who.post.inputAt[j] = parties[j].stock.inputsTaken;
                }
                settle(who, 0);
            }
        }

        /** Shares of one thing are of no use any more, once one party has used its own. */
        private void evenOut(int kind) {
            int most = 0;
            for (int i = 0; i < size; i++) {
                most = Math.max(most, parties[i].stock.taken[kind]);
            }
            for (int i = 0; i < size; i++) {
                parties[i].stock.taken[kind] = most;
            }
        }

        /** Goes on at a place, does what is no step there, and sees how the next step begins. */
        private void settle(Party who, int to) {
            who.position = to;
            for (int i = 0; i < MOST_BYTES; i++) {
                int operation = code.at(who.position);
                if (operation == NUMBER) {
                    who.memory.push(code.longAt(who.position + 1));
                } else if (operation == CLEAR) {
                    who.memory.push(read(who.memory.clears, code.at(who.position + 1)));
                } else if (operation == SECRET) {
                    who.memory.push(read(who.memory.secrets, code.at(who.position + 1)));
                } else {
                    who.phase = firstPhase(who, operation);
                    who.standing = operation <= END ? ENDED : GOES_ON;
                    return;
                }
                who.position += lengthOf(operation);
            }
        }

        private int firstPhase(Party who, int operation) {
            if (operation == INPUT) {
                return code.at(who.position + 2) == who.index ? SENDING : RECEIVING;
            }
            if (operation == SHOW_CLEAR || operation == SHOW_SECRET) {
                return who.check.opened > 0 ? 0 : BEHIND_CHECK;
            }
            return SENDING;
        }

        int stepOf(Party who) {
            if (who.standing != GOES_ON) {
                return who.standing;
            }
            if (who.post.noticed) {
                who.standing = FAILED;
                who.cause = CAUSE_NOTICE;
                return FAILED;
            }
            int answer = act(who);
            if (answer == DONE || answer == FAILED) {
                who.steps++;
                stepsInAll++;
            }
            return answer;
        }

        private int act(Party who) {
            int operation = code.at(who.position);
            if (operation == SHOW_CLEAR || operation == SHOW_SECRET) {
                return isInCheck(who, operation) ? checkStep(who) : show(who, operation);
            }
            if (who.phase == SENDING) {
                who.lack = lackFor(who, operation);
            }
            if (who.lack != 0) {
                who.standing = LACKS;
                return LACKS;
            }
            if (isShared(who, operation)) {
                return exchange(who, operation);
            }
            work(who, operation);
            return DONE;
        }

        private int lackFor(Party who, int operation) {
            Memory memory = who.memory;
            switch (operation) {
                case INPUT:
                    if (who.stock.inputsLeft() < 1) {
                        return LACKS_INPUT;
                    }
                    return who.stock.masksLeft() < 1 ? LACKS_MASK : 0;
                case TIMES_SECRET:
                    return left(who, TRIPLES) < 1 ? LACKS_TRIPLES : 0;
                case ROWS_TIMES:
                case ROWS_DOT:
                    return isShared(who, operation) && left(who, TRIPLES) < PLACES ? LACKS_TRIPLES : 0;
                case SQUARE_SECRET:
                    return left(who, SQUARES) < 1 ? LACKS_SQUARE : 0;
                case PLACE_CLEAR:
                case PLACE_SECRET:
                    return memory.fromTop(1) >= PLACES ? LACKS_PLACE : 0;
                case TO_PLACE_CLEAR:
                case TO_PLACE_SECRET:
                    return memory.fromTop(2) >= PLACES ? LACKS_PLACE : 0;
                case BIT:
                    return left(who, BITS) < 1 ? LACKS_BIT : 0;
                case CALL:
                    return memory.keeps >= MOST_KEPT ? LACKS_KEPT : 0;
                case BACK:
                    return memory.keeps < 1 ? LACKS_KEPT : 0;
                default:
                    return 0;
            }
        }

        private boolean isShared(Party who, int operation) {
            switch (operation) {
                case INPUT:
                case TIMES_SECRET:
                case SQUARE_SECRET:
                case OPEN:
                    return true;
                case ROWS_TIMES:
                case ROWS_DOT:
                    int at = firstArrayAt(who, operation);
                    return code.at(at) >= CLEAR_ARRAYS && code.at(at + 1) >= CLEAR_ARRAYS;
                default:
                    return false;
            }
        }

        private static int firstArrayAt(Party who, int operation) {
            return who.position + (operation == ROWS_DOT ? 1 : 2);
        }

        private int exchange(Party who, int operation) {
            if (who.phase == SENDING) {
                if (!sends(who)) {
                    return WAITS;
                }
                who.post.plainSends++;
                use(who.stock, operation);
                who.phase = RECEIVING;
                return DONE;
            }
            int from = operation == INPUT ? code.at(who.position + 2) : NONE;
            if (!receives(who, from)) {
                return WAITS;
            }
            gatherErrors(who, from, numbersOf(operation));
            conclude(who, operation);
            settle(who, who.position + lengthOf(operation));
            return DONE;
        }

        private static int numbersOf(int operation) {
            switch (operation) {
                case TIMES_SECRET:
                    return 2;
                case ROWS_TIMES:
                case ROWS_DOT:
                    return 2 * PLACES;
                default:
                    return 1;
            }
        }

        private static void use(Stock stock, int operation) {
            switch (operation) {
                case INPUT:
                    stock.inputsTaken++;
                    stock.masksTaken++;
                    break;
                case TIMES_SECRET:
                    stock.taken[TRIPLES]++;
                    break;
                case SQUARE_SECRET:
                    stock.taken[SQUARES]++;
                    break;
                case ROWS_TIMES:
                case ROWS_DOT:
                    stock.taken[TRIPLES] += PLACES;
                    break;
                default:
                    break;
            }
        }

        /** False if it waits. */
        private boolean sends(Party who) {
            Post post = who.post;
            for (int i = 0; i < size; i++) {
                if (post.outbox[i] >= bound) {
                    return false;
                }
            }
            for (int i = 0; i < size; i++) {
                if (i != who.index) {
                    post.outbox[i]++;
                }
            }
            post.sends++;
            return true;
        }

        /** From one party, or (NONE) from all. False if it waits: then nothing is taken. */
        private boolean receives(Party who, int from) {
            Post post = who.post;
            for (int i = 0; i < size; i++) {
                if (i != who.index && (from == NONE || from == i) && post.inbox[i] < 1) {
                    return false;
                }
            }
            for (int i = 0; i < size; i++) {
                if (i != who.index && (from == NONE || from == i)) {
                    post.inbox[i]--;
                }
            }
            post.receives++;
            return true;
        }

        /**
         * All errors in what was taken now, by number. An input is sent by one party and is not
         * opened; all else comes from all parties and is.
         */
        private void gatherErrors(Party who, int from, int numbers) {
            int[] taken = who.post.plainTaken;
            for (int k = 0; k < numbers && k < mistakes.length; k++) {
                long all = 0;
                for (int i = 0; i < size; i++) {
                    if (from == NONE || from == i) {
                        all = plus(all, errors.sum(i, taken[i], k));
                    }
                }
                mistakes[k] = all;
                if (from == NONE) {
                    who.check.note(all);
                }
            }
            for (int i = 0; i < size; i++) {
                if (from == NONE || from == i) {
                    taken[i]++;
                }
            }
        }

        private void conclude(Party who, int operation) {
            Memory memory = who.memory;
            int p = code.at(who.position + 1);
            int q = code.at(who.position + 2);
            switch (operation) {
                case INPUT:
                    write(memory.secrets, p, plus(nextInput(who, q), mistakes[0]));
                    break;
                case TIMES_SECRET:
                    long right = plus(memory.pop(), mistakes[1]);
                    long left = plus(memory.pop(), mistakes[0]);
                    memory.push(times(left, right));
                    break;
                case SQUARE_SECRET:
                    long root = plus(memory.pop(), mistakes[0]);
                    memory.push(times(root, root));
                    break;
                case OPEN:
                    write(memory.clears, p, plus(read(memory.secrets, q), mistakes[0]));
                    break;
                default:
                    joinArrays(who, operation);
                    break;
            }
        }

        private long nextInput(Party who, int giver) {
            if (!has(giver)) {
                return 0;
            }
            int at = who.post.inputAt[giver];
            who.post.inputAt[giver]++;
            return read(parties[giver].stock.inputs, at);
        }

        private void joinArrays(Party who, int operation) {
            Memory memory = who.memory;
            int at = firstArrayAt(who, operation);
            boolean shared = isShared(who, operation);
            long sum = 0;
            for (int i = 0; i < PLACES && 2 * i + 1 < mistakes.length; i++) {
                long x = memory.cell(code.at(at), i);
                long y = memory.cell(code.at(at + 1), i);
                if (shared) {
                    x = plus(x, mistakes[2 * i]);
                    y = plus(y, mistakes[2 * i + 1]);
                }
                if (operation == ROWS_DOT) {
                    sum = plus(sum, times(x, y));
                } else {
                    memory.setCell(code.at(who.position + 1), i, joined(operation, x, y));
                }
            }
            if (operation == ROWS_DOT) {
                memory.push(sum);
            }
        }

        private static long joined(int operation, long x, long y) {
            switch (operation) {
                case PLUS:
                case ROWS_PLUS:
                    return plus(x, y);
                case MINUS:
                case ROWS_MINUS:
                    return minus(x, y);
                default:
                    return times(x, y);
            }
        }

        /** What is done in one step, without anything being sent. */
        private void work(Party who, int operation) {
            Memory memory = who.memory;
            int p = code.at(who.position + 1);
            int next = who.position + lengthOf(operation);
            switch (operation) {
                case PLUS:
                case MINUS:
                case TIMES:
                    long right = memory.pop();
                    memory.push(joined(operation, memory.pop(), right));
                    break;
                case NEGATE:
                    memory.push(minus(0, memory.pop()));
                    break;
                case SQUARE:
                    long root = memory.pop();
                    memory.push(times(root, root));
                    break;
                case TO_CLEAR:
                    write(memory.clears, p, memory.pop());
                    break;
                case TO_SECRET:
                    write(memory.secrets, p, memory.pop());
                    break;
                case PLACE_CLEAR:
                case PLACE_SECRET:
                case TO_PLACE_CLEAR:
                case TO_PLACE_SECRET:
                    visitPlace(memory, operation, p);
                    break;
                case BIT:
                    write(memory.secrets, p, nextBit(who));
                    break;
                case UNLESS:
                case GO:
                case CALL:
                case BACK:
                    next = jump(who, operation, next);
                    break;
                default:
                    joinArrays(who, operation);
                    break;
            }
            settle(who, next);
        }

        private static void visitPlace(Memory memory, int operation, int p) {
            int secret = p + CLEAR_ARRAYS;
            if (operation == PLACE_CLEAR) {
                memory.push(memory.cell(p, memory.pop()));
            } else if (operation == PLACE_SECRET) {
                memory.push(memory.cell(secret, memory.pop()));
            } else {
                long v = memory.pop();
                memory.setCell(operation == TO_PLACE_CLEAR ? p : secret, memory.pop(), v);
            }
        }

        private long nextBit(Party who) {
            int at = who.stock.taken[BITS];
            who.stock.taken[BITS]++;
            return digest.next(seed + BITS_SEED_OFFSET, at) & 1;
        }

        private int jump(Party who, int operation, int behind) {
            int at = who.position;
            if (operation == UNLESS) {
                return read(who.memory.clears, code.at(at + 1)) == 0 ? code.target(at + 2) : behind;
            }
            if (operation == BACK) {
                return who.memory.lastKept();
            }
            if (operation == CALL) {
                who.memory.keep(behind);
            }
            return code.target(at + 1);
        }

        private static boolean isInCheck(Party who, int operation) {
            if (who.phase < BEHIND_CHECK) {
                return true;
            }
            return operation == SHOW_SECRET && who.phase >= SECOND_CHECK && who.phase < BEHIND_SECOND_CHECK;
        }

        private int show(Party who, int operation) {
            int p = code.at(who.position + 1);
            if (operation == SHOW_CLEAR) {
                who.putOut(read(who.memory.clears, p));
            } else if (who.phase == BEHIND_CHECK) {
                return sendShown(who);
            } else if (who.phase == SHOWN_RECEIVING) {
                return receiveShown(who, p);
            } else {
                who.putOut(who.shown);
            }
            settle(who, who.position + lengthOf(operation));
            return DONE;
        }

        private int sendShown(Party who) {
            if (!sends(who)) {
                return WAITS;
            }
            who.post.plainSends++;
            who.phase = SHOWN_RECEIVING;
            return DONE;
        }

        private int receiveShown(Party who, int p) {
            if (!receives(who, NONE)) {
                return WAITS;
            }
            gatherErrors(who, NONE, 1);
            who.shown = plus(read(who.memory.secrets, p), mistakes[0]);
            who.phase = SECOND_CHECK;
            return DONE;
        }

        private int checkStep(Party who) {
            int part = who.phase < BEHIND_CHECK ? who.phase : who.phase - SECOND_CHECK;
            boolean goes = (part & 1) == 0 ? sends(who) : receives(who, NONE);
            if (!goes) {
                return WAITS;
            }
            who.phase++;
            switch (part) {
                case COINS_BOUND_SEND:
                    who.check.drawCoinAndNonce();
                    return DONE;
                case COINS_BOUND_RECEIVE:
                    noteBonds(who.check);
                    return DONE;
                case SUMS_BOUND_SEND:
                    who.check.drawNonce();
                    return DONE;
                case SUMS_SHOWN_RECEIVE:
                    return judge(who);
                default:
                    return DONE;
            }
        }

        /** Nobody begins another check ahead of this receive, so the latest coins are this check's. */
        private void noteBonds(Check check) {
            for (int i = 0; i < size; i++) {
                check.coinAt[i] = parties[i].check.ownCoinAt;
            }
            check.bondsKnown = true;
        }

        private int judge(Party who) {
            Check check = who.check;
            long sum = check.errors > 0 ? weightedErrors(check) : 0;
            check.through++;
            check.forget();
            if (sum == 0) {
                return DONE;
            }
            who.standing = FAILED;
            who.cause = CAUSE_CHECK;
            for (int i = 0; i < size; i++) {
                who.post.notices[i] = i != who.index;
            }
            return FAILED;
        }

        private long weightedErrors(Check check) {
            long key = 0;
            long coins = 0;
            for (int i = 0; i < size; i++) {
                key = plus(key, digest.next(seed, i));
                coins = plus(coins, digest.next(ownSeed(i), check.coinAt[i]));
            }
            long sum = 0;
            for (int i = 0; i < check.errors && i < MOST_ERRORS; i++) {
                long weight = digest.next(coins, check.errorAt[i]);
                sum = plus(sum, times(weight, check.errorOf[i]));
            }
            return times(key, sum);
        }

        private long ownSeed(int party) {
            return seed + OWN_SEED_STRIDE * (party + 1);
        }

        int bondByte(Party who, int from, int k) {
            int at = has(from) ? who.check.coinAt[from] : 0;
            long coin = digest.next(ownSeed(from), at);
            long nonce = digest.next(ownSeed(from), at + 1);
            return digest.byteOf(coin, nonce, k);
        }

        /** Brings the oldest mail; a notice is always the last that a wire gets. */
        boolean bring(int from, int to) {
            if (!has(from) || !has(to)) {
                return false;
            }
            Post sender = parties[from].post;
            Post receiver = parties[to].post;
            if (sender.outbox[to] > 0) {
                sender.outbox[to]--;
                receiver.inbox[from]++;
                return true;
            }
            if (sender.notices[to]) {
                sender.notices[to] = false;
                receiver.noticed = true;
                return true;
            }
            return false;
        }

        boolean bringAll() {
            boolean brought = false;
            for (int from = 0; from < size; from++) {
                for (int to = 0; to < size; to++) {
                    for (int i = 0; i <= MOST_BOUND && bring(from, to); i++) {
                        brought = true;
                    }
                }
            }
            return brought;
        }

        int onWire(int from, int to) {
            if (!has(from) || !has(to)) {
                return 0;
            }
            Post sender = parties[from].post;
            return sender.outbox[to] + (sender.notices[to] ? 1 : 0);
        }
    }
}
