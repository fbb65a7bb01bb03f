import java.math.BigInteger;
import java.util.ArrayDeque;
import java.util.ArrayList;
import java.util.Arrays;
import java.util.Deque;
import java.util.List;
import java.util.NoSuchElementException;

/**
 * A second reading of the document's halls and runs, made apart from the class: mails carry what is
 * in them, and each operation becomes a row of steps that are tried one by one.
 */
final class Model implements Calls {
    private static final BigInteger MODULUS = BigInteger.valueOf(Desk.P);
    private static final int WAITS = 0;
    private static final int DONE = 1;
    private static final int FAILED = 3;
    private static final int LACKS = 4;
    private static final List<Object> NOTICE = List.of("notice");

    /** A try: WAITS, DONE, FAILED, or what is lacking as 10 and more. */
    private interface Step {
        int attempt();
    }

    private interface Taker {
        int take(List<List<Object>> mails);
    }

    private interface Giver {
        List<Object> give();
    }

    private interface Lack {
        int found();
    }

    private record Error(int party, int n, int k, BigInteger e) { }

    private final class Party {
        final int me;
        final int[] taken = new int[3];
        int masksDealt;
        int masksTaken;
        int givenCount;
        final Deque<BigInteger> inputs = new ArrayDeque<>();
        int drawn;

        int standing;
        int place;
        int steps;
        int sends;
        int receives;
        int plainSends;
        int checks;
        int cause;
        int lack;
        boolean noticed;
        BigInteger shown;
        List<Object> own;
        List<byte[]> bonds;
        final List<BigInteger> outs = new ArrayList<>();
        final List<BigInteger> opened = new ArrayList<>();
        final BigInteger[] clear = new BigInteger[13];
        final BigInteger[] secret = new BigInteger[13];
        final BigInteger[][] arrays = new BigInteger[8][16];
        final ArrayDeque<BigInteger> pile = new ArrayDeque<>();
        final ArrayDeque<Integer> kept = new ArrayDeque<>();
        final Deque<Step> todo = new ArrayDeque<>();
        final List<Deque<List<Object>>> wires = new ArrayList<>();
        final List<Deque<List<Object>>> inbox = new ArrayList<>();

        Party(int me) {
            this.me = me;
        }

        void begin() {
            standing = 1;
            place = steps = sends = receives = plainSends = checks = cause = lack = 0;
            noticed = false;
            bonds = null;
            outs.clear();
            opened.clear();
            pile.clear();
            kept.clear();
            todo.clear();
            wires.clear();
            inbox.clear();
            Arrays.fill(clear, BigInteger.ZERO);
            Arrays.fill(secret, BigInteger.ZERO);
            for (BigInteger[] array : arrays) {
                Arrays.fill(array, BigInteger.ZERO);
            }
            for (int i = 0; i < size; i++) {
                wires.add(new ArrayDeque<>());
                inbox.add(new ArrayDeque<>());
            }
            goOn(0);
        }

        void goOn(int to) {
            place = to;
            while (code.get(place) >= 1 && code.get(place) <= 3) {
                int p = code.get(place + 1);
                if (code.get(place) == 1) {
                    pile.push(BigInteger.valueOf(ModelVerifier.number(code, place + 1)));
                } else {
                    pile.push(code.get(place) == 2 ? clear[p] : secret[p]);
                }
                place = behind();
            }
            if (code.get(place) == 0) {
                standing = 2;
            } else {
                plan();
            }
        }

        int behind() {
            return place + 1 + ModelVerifier.FORMS[code.get(place)].length();
        }

        int byteAt(int i) {
            return code.get(place + i);
        }

        long draw() {
            return P19BoundTest.next(seed + 1000003L * (me + 1), drawn++);
        }

        int left(int kind) {
            return dealt[kind] - taken[kind];
        }

        private void plan() {
            int operation = code.get(place);
            int p = behind() > place + 1 ? byteAt(1) : 0;
            int q = behind() > place + 2 ? byteAt(2) : 0;
            switch (operation) {
                case 7:
                    exchange(2, () -> left(0) < 1 ? 3 : 0, () -> taken[0]++, errors -> {
                        BigInteger y = pile.pop().add(errors.get(1));
                        pile.push(pile.pop().add(errors.get(0)).multiply(y).mod(MODULUS));
                    });
                    break;
                case 10:
                    exchange(1, () -> left(1) < 1 ? 4 : 0, () -> taken[1]++,
                        errors -> pile.push(pile.pop().add(errors.get(0)).pow(2).mod(MODULUS)));
                    break;
                case 13:
                    if (q == me) {
                        send(true, () -> inputs.isEmpty() ? 1 : masksTaken >= masksDealt ? 2 : 0, () -> {
                            masksTaken++;
                            return List.of(inputs.pop());
                        });
                    }
                    receive(List.of(q), mails -> {
                        secret[p] = (BigInteger) mails.get(0).get(0);
                        goOn(behind());
                        return DONE;
                    });
                    break;
                case 14:
                    exchange(1, () -> 0, () -> { }, errors -> clear[p] = secret[q].add(errors.get(0)).mod(MODULUS));
                    break;
                case 15:
                    check(!opened.isEmpty());
                    simple(() -> 0, () -> outs.add(clear[p]));
                    break;
                case 16:
                    check(!opened.isEmpty());
                    exchangeOnly(1, () -> 0, () -> { }, errors -> shown = secret[p].add(errors.get(0)).mod(MODULUS));
                    check(true);
                    simple(() -> 0, () -> outs.add(shown));
                    break;
                case 25: case 26:
                    planArrays(operation, p, q);
                    break;
                default:
                    planSimple(operation, p, q);
                    break;
            }
        }

        private void planArrays(int operation, int p, int q) {
            BigInteger[] left = arrays[operation == 25 ? q : p];
            BigInteger[] right = arrays[operation == 25 ? byteAt(3) : q];
            Finish finish = errors -> {
                BigInteger sum = BigInteger.ZERO;
                BigInteger[] products = new BigInteger[16];
                for (int i = 0; i < 16; i++) {
                    products[i] = left[i].add(errors.get(2 * i)).multiply(right[i].add(errors.get(2 * i + 1))).mod(MODULUS);
                    sum = sum.add(products[i]).mod(MODULUS);
                }
                if (operation == 25) {
                    System.arraycopy(products, 0, arrays[p], 0, 16);
                } else {
                    pile.push(sum);
                }
            };
            boolean secretLeft = (operation == 25 ? q : p) > 3;
            boolean secretRight = (operation == 25 ? byteAt(3) : q) > 3;
            if (secretLeft && secretRight) {
                exchange(32, () -> left(0) < 16 ? 3 : 0, () -> taken[0] += 16, finish);
            } else {
                simple(() -> 0, () -> finish.end(java.util.Collections.nCopies(32, BigInteger.ZERO)));
            }
        }

        private void planSimple(int operation, int p, int q) {
            switch (operation) {
                case 4: simple(() -> 0, () -> two((x, y) -> x.add(y))); break;
                case 5: simple(() -> 0, () -> two((x, y) -> x.subtract(y))); break;
                case 6: simple(() -> 0, () -> two((x, y) -> x.multiply(y))); break;
                case 8: simple(() -> 0, () -> pile.push(pile.pop().negate().mod(MODULUS))); break;
                case 9: simple(() -> 0, () -> pile.push(pile.pop().pow(2).mod(MODULUS))); break;
                case 11: simple(() -> 0, () -> clear[p] = pile.pop()); break;
                case 12: simple(() -> 0, () -> secret[p] = pile.pop()); break;
                case 17: jump(() -> 0, () -> clear[p].signum() == 0 ? 256 * q + byteAt(3) : behind()); break;
                case 18: jump(() -> 0, () -> 256 * p + q); break;
                case 19: case 20:
                    BigInteger[] from = arrays[operation == 19 ? p : 4 + p];
                    simple(() -> outside(pile.peek()), () -> pile.push(from[pile.pop().intValue()]));
                    break;
                case 21: case 22:
                    BigInteger[] to = arrays[operation == 21 ? p : 4 + p];
                    simple(() -> outside(pile.stream().skip(1).findFirst().get()), () -> {
                        BigInteger value = pile.pop();
                        to[pile.pop().intValue()] = value;
                    });
                    break;
                case 23: case 24:
                    int r = byteAt(3);
                    simple(() -> 0, () -> {
                        for (int i = 0; i < 16; i++) {
                            BigInteger y = operation == 23 ? arrays[r][i] : arrays[r][i].negate();
                            arrays[p][i] = arrays[q][i].add(y).mod(MODULUS);
                        }
                    });
                    break;
                case 27:
                    simple(() -> left(2) < 1 ? 6 : 0,
                        () -> secret[p] = BigInteger.valueOf(P19BoundTest.next(seed + 7000003, taken[2]++) & 1));
                    break;
                case 28:
                    jump(() -> kept.size() == 16 ? 7 : 0, () -> {
                        kept.push(behind());
                        return 256 * p + q;
                    });
                    break;
                case 29: jump(() -> kept.isEmpty() ? 7 : 0, () -> kept.pop()); break;
                default: throw new AssertionError("operation " + operation);
            }
        }

        private int outside(BigInteger at) {
            return at.compareTo(BigInteger.valueOf(15)) > 0 ? 5 : 0;
        }

        private void two(java.util.function.BinaryOperator<BigInteger> f) {
            BigInteger y = pile.pop();
            pile.push(f.apply(pile.pop(), y).mod(MODULUS));
        }

        private void simple(Lack lack, Runnable work) {
            todo.add(() -> {
                if (lack.found() != 0) {
                    return 10 + lack.found();
                }
                work.run();
                goOn(behind());
                return DONE;
            });
        }

        private void jump(Lack lack, java.util.function.Supplier<Integer> target) {
            todo.add(() -> {
                if (lack.found() != 0) {
                    return 10 + lack.found();
                }
                goOn(target.get());
                return DONE;
            });
        }

        private void send(boolean plain, Lack lack, Giver giver) {
            todo.add(() -> {
                if (lack.found() != 0) {
                    return 10 + lack.found();
                }
                for (int i = 0; i < size; i++) {
                    if (wires.get(i).size() >= bound) {
                        return WAITS;
                    }
                }
                List<Object> mail = new ArrayList<>(giver.give());
                if (plain) {
                    for (Error error : errors) {
                        if (error.party == me && error.n == plainSends && error.k < mail.size()) {
                            mail.set(error.k, ((BigInteger) mail.get(error.k)).add(error.e).mod(MODULUS));
                        }
                    }
                    plainSends++;
                }
                for (int i = 0; i < size; i++) {
                    if (i != me) {
                        wires.get(i).add(mail);
                    }
                }
                own = mail;
                sends++;
                return DONE;
            });
        }

        private void receive(List<Integer> from, Taker taker) {
            todo.add(() -> {
                for (int i : from) {
                    if (i != me && inbox.get(i).isEmpty()) {
                        return WAITS;
                    }
                }
                List<List<Object>> mails = new ArrayList<>();
                for (int i : from) {
                    mails.add(i == me ? own : inbox.get(i).pop());
                }
                receives++;
                return taker.take(mails);
            });
        }

        private void exchange(int numbers, Lack lack, Runnable take, Finish finish) {
            exchangeOnly(numbers, lack, take, errors -> {
                finish.end(errors);
                goOn(behind());
            });
        }

        private void exchangeOnly(int numbers, Lack lack, Runnable take, Finish finish) {
            send(true, lack, () -> {
                take.run();
                return java.util.Collections.nCopies(numbers, BigInteger.ZERO);
            });
            receive(all(), mails -> {
                List<BigInteger> sums = new ArrayList<>();
                for (int k = 0; k < numbers; k++) {
                    BigInteger sum = BigInteger.ZERO;
                    for (List<Object> mail : mails) {
                        sum = sum.add((BigInteger) mail.get(k)).mod(MODULUS);
                    }
                    sums.add(sum);
                }
                opened.addAll(sums);
                finish.end(sums);
                return DONE;
            });
        }

        private List<Integer> all() {
            List<Integer> everybody = new ArrayList<>();
            for (int i = 0; i < size; i++) {
                everybody.add(i);
            }
            return everybody;
        }

        private void check(boolean needed) {
            if (!needed) {
                return;
            }
            long[] coinAndNonce = new long[2];
            BigInteger[] coins = {BigInteger.ZERO};
            send(false, () -> 0, () -> {
                coinAndNonce[0] = draw();
                coinAndNonce[1] = draw();
                return List.of(P19BoundTest.digest(coinAndNonce[0], coinAndNonce[1]));
            });
            receive(all(), mails -> {
                bonds = new ArrayList<>();
                for (List<Object> mail : mails) {
                    bonds.add((byte[]) mail.get(0));
                }
                return DONE;
            });
            send(false, () -> 0, () -> List.of(coinAndNonce[0], coinAndNonce[1]));
            receive(all(), mails -> {
                for (int i = 0; i < size; i++) {
                    long coin = (Long) mails.get(i).get(0);
                    if (!Arrays.equals(P19BoundTest.digest(coin, (Long) mails.get(i).get(1)), bonds.get(i))) {
                        throw new AssertionError("a coin is not the one that was bound");
                    }
                    coins[0] = coins[0].add(BigInteger.valueOf(coin)).mod(MODULUS);
                }
                return DONE;
            });
            send(false, () -> 0, () -> List.of(draw()));
            receive(all(), mails -> DONE);
            send(false, () -> 0, () -> List.of("sum"));
            receive(all(), mails -> verdict(coins[0].longValueExact()));
        }

        private int verdict(long coins) {
            BigInteger key = BigInteger.ZERO;
            for (int i = 0; i < size; i++) {
                key = key.add(BigInteger.valueOf(P19BoundTest.next(seed, i)));
            }
            BigInteger sum = BigInteger.ZERO;
            for (int i = 0; i < opened.size(); i++) {
                if (opened.get(i).signum() != 0) {
                    sum = sum.add(opened.get(i).multiply(BigInteger.valueOf(P19BoundTest.next(coins, i))));
                }
            }
            checks++;
            opened.clear();
            if (key.multiply(sum).mod(MODULUS).signum() == 0) {
                return DONE;
            }
            for (int i = 0; i < size; i++) {
                if (i != me) {
                    wires.get(i).add(NOTICE);
                }
            }
            return FAILED;
        }

        int step() {
            if (standing != 1) {
                return standing;
            }
            if (noticed) {
                cause = 2;
                standing = FAILED;
                return FAILED;
            }
            Step step = todo.pop();
            int answer = step.attempt();
            if (answer == WAITS) {
                todo.push(step);
                return WAITS;
            }
            if (answer >= 10) {
                lack = answer - 10;
                standing = LACKS;
                return LACKS;
            }
            steps++;
            stepsInAll++;
            if (answer == FAILED) {
                cause = 1;
                standing = FAILED;
            }
            return answer;
        }
    }

    private interface Finish {
        void end(List<BigInteger> errors);
    }

    private final StringBuilder tape = new StringBuilder();
    private final List<Integer> together = new ArrayList<>();
    private List<Integer> code = new ArrayList<>();
    private final List<Party> parties = new ArrayList<>();
    private final List<Error> errors = new ArrayList<>();
    private final int[] dealt = new int[3];
    private final int[] faults = new int[2];
    private int size;
    private long seed;
    private int bound;
    private int halls = -1;
    private int dealtInAll;
    private int stepsInAll;
    private boolean running;

    Model() {
        hall(2, 0, 1);
    }

    int partiesNow() {
        return size;
    }

    int codeSize() {
        return code.size();
    }

    private boolean hall(long newSize, long newSeed, long newBound) {
        if (newSize < 2 || newSize > 4 || newBound < 1 || newBound > 4 || halls == 300) {
            return false;
        }
        halls++;
        size = (int) newSize;
        seed = newSeed;
        bound = (int) newBound;
        code = new ArrayList<>();
        running = false;
        Arrays.fill(dealt, 0);
        parties.clear();
        for (int i = 0; i < size; i++) {
            parties.add(new Party(i));
        }
        return true;
    }

    private static List<Integer> bytesOf(long word, long n) {
        List<Integer> bytes = new ArrayList<>();
        for (int i = (int) n - 1; i >= 0; i--) {
            bytes.add((int) (word >>> 8 * i & 255));
        }
        return bytes;
    }

    private boolean type(long word, long n) {
        if (n < 1 || n > 8 || tape.length() + n > 400) {
            return false;
        }
        List<Integer> bytes = bytesOf(word, n);
        if (bytes.stream().anyMatch(b -> b < 32 || b > 126)) {
            return false;
        }
        bytes.forEach(b -> tape.append((char) (int) b));
        return true;
    }

    private boolean put(long word, long n) {
        return n >= 1 && n <= 8 && together.size() + n <= 2000 && together.addAll(bytesOf(word, n));
    }

    private long compile() {
        ModelCompiler compiler = new ModelCompiler(tape.toString(), size);
        tape.setLength(0);
        boolean good = compiler.compile();
        faults[0] = compiler.kind;
        faults[1] = compiler.place;
        if (!good) {
            throw new IllegalArgumentException();
        }
        if (!new ModelVerifier(compiler.code, size).verify()) {
            throw new AssertionError("compiled code is refused");
        }
        code = compiler.code;
        running = false;
        return code.size();
    }

    private long load() {
        List<Integer> bytes = new ArrayList<>(together);
        together.clear();
        ModelVerifier verifier = new ModelVerifier(bytes, size);
        boolean good = verifier.verify();
        faults[0] = verifier.kind;
        faults[1] = verifier.place;
        if (!good) {
            throw new IllegalArgumentException();
        }
        code = bytes;
        running = false;
        return verifier.operations();
    }

    private boolean has(long party) {
        return party >= 0 && party < size;
    }

    private Party at(long party) {
        return parties.get((int) party);
    }

    private long mostLeft(int kind) {
        return parties.stream().mapToInt(p -> p.left(kind)).max().getAsInt();
    }

    private long deal(long party, long n) {
        if (party < -3 || party >= size || n < 0) {
            throw new IllegalArgumentException();
        }
        int kind = (int) (-1 - party);
        long before = has(party) ? at(party).masksDealt : dealt[kind];
        if (before + n > 200 || dealtInAll + n > 3000) {
            throw new IllegalArgumentException();
        }
        dealtInAll += (int) n;
        if (has(party)) {
            at(party).masksDealt += (int) n;
            return at(party).masksDealt - at(party).masksTaken;
        }
        dealt[kind] += (int) n;
        return mostLeft(kind);
    }

    private boolean give(long party, long v) {
        if (!has(party) || at(party).givenCount == 100) {
            return false;
        }
        at(party).givenCount++;
        at(party).inputs.add(BigInteger.valueOf(v).mod(MODULUS));
        return true;
    }

    private boolean begin() {
        if (code.isEmpty()) {
            return false;
        }
        errors.clear();
        running = true;
        for (int kind = 0; kind < 3; kind++) {
            int k = kind;
            int most = parties.stream().mapToInt(p -> p.taken[k]).max().getAsInt();
            parties.forEach(p -> p.taken[k] = most);
        }
        parties.forEach(Party::begin);
        return true;
    }

    private boolean tamper(long party, long n, long k, long e) {
        if (!running || !has(party) || k < 0 || k > 31 || n < 0 || n > 999) {
            return false;
        }
        if (n < at(party).plainSends || errors.size() == 40) {
            return false;
        }
        return errors.add(new Error((int) party, (int) n, (int) k, BigInteger.valueOf(e)));
    }

    private long step(long party) {
        if (!has(party)) {
            throw new IndexOutOfBoundsException();
        }
        if (stepsInAll >= 30000) {
            throw new IllegalStateException();
        }
        return running ? at(party).step() : 2;
    }

    private boolean deliver(long from, long to) {
        if (!running || !has(from) || !has(to) || from == to || at(from).wires.get((int) to).isEmpty()) {
            return false;
        }
        List<Object> mail = at(from).wires.get((int) to).pop();
        if (mail == NOTICE) {
            at(to).noticed = true;
        } else {
            at(to).inbox.get((int) from).add(mail);
        }
        return true;
    }

    private long run(long n) {
        if (n < 1 || n > 2000) {
            throw new IllegalArgumentException();
        }
        int before = stepsInAll;
        for (int round = 0; running && round < n; round++) {
            int ahead = stepsInAll;
            boolean delivered = false;
            for (Party p : parties) {
                if (stepsInAll < 30000) {
                    p.step();
                }
            }
            for (int from = 0; from < size; from++) {
                for (int to = 0; to < size; to++) {
                    while (deliver(from, to)) {
                        delivered = true;
                    }
                }
            }
            if (!delivered && ahead == stepsInAll) {
                break;
            }
        }
        return stepsInAll - before;
    }

    private long party(long party, long what) {
        if (!has(party)) {
            return -1;
        }
        Party p = at(party);
        if (what >= 10 && what <= 13 || what >= 20 && what <= 23) {
            int j = (int) what % 10;
            if (j >= size) {
                return -1;
            }
            if (!running || j == party) {
                return 0;
            }
            return what < 20 ? p.wires.get(j).size() : p.inbox.get(j).size();
        }
        switch ((int) what) {
            case 0: return running ? p.standing : 2;
            case 1: return running ? p.steps : 0;
            case 2: return running ? p.sends : 0;
            case 3: return running ? p.receives : 0;
            case 4: return running ? p.outs.size() : 0;
            case 5: return p.masksDealt - p.masksTaken;
            case 6: return p.inputs.size();
            case 7: return running ? p.lack : 0;
            case 8: return running ? p.checks : 0;
            case 9: return running ? p.cause : 0;
            case 30: return running ? p.kept.size() : 0;
            default: return -1;
        }
    }

    private long output(long party, long k) {
        if (!running || !has(party) || k < 0 || k >= at(party).outs.size()) {
            throw new NoSuchElementException();
        }
        return at(party).outs.get((int) k).longValueExact();
    }

    private long clear(long party, long v) {
        if (!running || !has(party) || v < 0 || v > 12 && v < 100 || v > 163) {
            throw new NoSuchElementException();
        }
        int cell = (int) v - 100;
        return (v < 100 ? at(party).clear[(int) v] : at(party).arrays[cell / 16][cell % 16]).longValueExact();
    }

    private long boundByte(long party, long from, long k) {
        if (!running || !has(party) || !has(from) || k < 0 || k > 31 || at(party).bonds == null) {
            throw new NoSuchElementException();
        }
        return at(party).bonds.get((int) from)[(int) k] & 255;
    }

    private long total(long what) {
        switch ((int) what) {
            case 0: return size;
            case 1: return mostLeft(0);
            case 2: return stepsInAll;
            case 3: return code.size();
            case 4: return mostLeft(1);
            case 5: return bound;
            case 6: return mostLeft(2);
            default: return -1;
        }
    }

    @Override
    public long call(String name, long[] a) {
        switch (name) {
            case "type": return type(a[0], a[1]) ? 1 : 0;
            case "put": return put(a[0], a[1]) ? 1 : 0;
            case "hall": return hall(a[0], a[1], a[2]) ? 1 : 0;
            case "compile": return compile();
            case "load": return load();
            case "fault": return a[0] == 0 || a[0] == 1 ? faults[(int) a[0]] : -1;
            case "code": return a[0] >= 0 && a[0] < code.size() ? code.get((int) a[0]) : -1;
            case "deal": return deal(a[0], a[1]);
            case "give": return give(a[0], a[1]) ? 1 : 0;
            case "begin": return begin() ? 1 : 0;
            case "tamper": return tamper(a[0], a[1], a[2], a[3]) ? 1 : 0;
            case "step": return step(a[0]);
            case "deliver": return deliver(a[0], a[1]) ? 1 : 0;
            case "run": return run(a[0]);
            case "party": return party(a[0], a[1]);
            case "output": return output(a[0], a[1]);
            case "clear": return clear(a[0], a[1]);
            case "bound": return boundByte(a[0], a[1], a[2]);
            case "total": return total(a[0]);
            default: throw new AssertionError("no such call: " + name);
        }
    }
}
