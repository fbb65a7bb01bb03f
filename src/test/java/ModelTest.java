import java.util.List;

/** All promises: runs of calls that are made up, each answered by the class as by the model. */
public final class ModelTest {
    private static final int MOST_CALLS = 500;

    private final Maker maker;
    private final Model model = new Model();
    private final Desk modelDesk = new Desk(model);
    private final Desk desk = new Desk();
    private int made;

    private ModelTest(long seed) {
        maker = new Maker(seed);
    }

    public static void main(String[] args) {
        int sessions = args.length > 0 ? Integer.parseInt(args[0]) : 600;
        long first = args.length > 1 ? Long.parseLong(args[1]) : 0;
        for (int i = 0; i < sessions; i++) {
            ModelTest test = new ModelTest(first + i);
            switch (i % 4) {
                case 0: test.mixed(true); break;
                case 1: test.mixed(false); break;
                case 2: test.faults(); break;
                default: test.tampered(); break;
            }
        }
        Desk.end();
    }

    private void ask(String line) {
        if (made < MOST_CALLS) {
            made++;
            desk.due(line, modelDesk.ask(line));
        }
    }

    private void words(String call, List<Integer> bytes) {
        for (int at = 0; at < bytes.size();) {
            int n = Math.min(4 + maker.below(5), bytes.size() - at);
            long word = maker.chance(0.3) ? maker.aLong() : 0;
            for (int i = 0; i < n; i++) {
                word = word << 8 | bytes.get(at + i);
            }
            ask(call + " " + word + " " + n);
            at += n;
        }
    }

    private void type(String text) {
        words("type", text.chars().boxed().toList());
    }

    private void faultsAsked() {
        ask("fault 0");
        ask("fault 1");
    }

    private void prepare() {
        long[] seeds = {0, 1, 12345, -1, Long.MIN_VALUE, Long.MAX_VALUE, Desk.P, maker.aLong()};
        if (maker.chance(0.9)) {
            ask("hall " + maker.within(2, 4) + " " + seeds[maker.below(seeds.length)] + " " + maker.within(1, 4));
        }
        for (int kind = -3; kind < model.partiesNow(); kind++) {
            ask("deal " + kind + " " + new int[] {0, 1, 2, 5, 20, 60, 60}[maker.below(7)]);
        }
        for (int i = 0; i < model.partiesNow() * 3; i++) {
            ask("give " + maker.within(0, model.partiesNow() - 1) + " " + maker.aLong());
        }
    }

    private void look() {
        int size = model.partiesNow();
        for (int p = 0; p < size; p++) {
            for (int what = 0; what < 10; what++) {
                ask("party " + p + " " + what);
            }
            ask("party " + p + " " + maker.within(10, 14));
            ask("party " + p + " " + maker.within(20, 24));
            ask("party " + p + " 30");
            ask("output " + p + " " + maker.within(0, 2));
            ask("output " + p + " 0");
            ask("clear " + p + " " + new int[] {0, 1, 2, 12, 13, 99, 100, 101, 115, 163, 164}[maker.below(11)]);
            ask("bound " + p + " " + maker.within(0, size - 1) + " " + maker.within(0, 31));
        }
        ask("total " + maker.within(0, 6));
    }

    private void act() {
        int last = model.partiesNow() - 1;
        int r = maker.below(100);
        if (r < 40) {
            ask("step " + maker.within(0, last));
        } else if (r < 68) {
            ask("deliver " + maker.within(0, last) + " " + maker.within(0, last));
        } else if (r < 80) {
            ask("run " + maker.within(1, 1 + maker.below(4)));
        } else if (r < 86) {
            ask("tamper " + maker.within(0, last) + " " + maker.within(0, 8) + " " + maker.within(0, 1) + " " + maker.aLong());
        } else if (r < 88) {
            ask("deal " + maker.within(-3, last) + " " + maker.within(0, 3));
        } else if (r < 90) {
            ask("give " + maker.within(0, last) + " " + maker.aLong());
        } else if (r < 92) {
            ask("begin");
        } else if (r < 97) {
            ask("party " + maker.within(0, last) + " " + maker.within(0, 30));
        } else if (r < 98) {
            ask("run 2000");
        } else if (maker.chance(0.1)) {
            type(maker.spoiled(maker.oneOf(">a;", "n<0;>n;", "a:n;>a;")));
            ask("compile");
            look();
        } else {
            look();
        }
    }

    private void mixed(boolean typed) {
        prepare();
        if (typed) {
            String text = (maker.chance(0.15) ? "d=1;".repeat(30) : "") + maker.program(model.partiesNow());
            type(maker.chance(0.2) ? maker.spoiled(text) : text);
            ask("compile");
        } else {
            words("put", maker.chance(0.9) ? maker.goodCode(model.partiesNow()) : maker.anyCode());
            ask("load");
        }
        faultsAsked();
        for (int i = 0; i < 12; i++) {
            ask("code " + maker.within(0, Math.max(model.codeSize(), 1)));
        }
        ask("begin");
        for (int i = 0; i < maker.below(4); i++) {
            ask("tamper " + maker.within(0, 1) + " " + maker.below(4) + " " + new int[] {0, 0, 1, 31}[maker.below(4)] + " 7");
        }
        if (maker.chance(0.5)) {
            ask("run " + new int[] {5, 20, 2000}[maker.below(3)]);
            look();
        }
        while (made < MOST_CALLS - 80) {
            act();
        }
        look();
    }

    private void faults() {
        while (made < MOST_CALLS - 100) {
            switch (maker.below(5)) {
                case 0: type(maker.spoiled(maker.program(model.partiesNow()))); break;
                case 1: type(maker.renamed(maker.program(model.partiesNow()))); break;
                case 2: type(maker.deep(18 + maker.below(5))); break;
                case 3:
                    List<Integer> code = maker.goodCode(model.partiesNow());
                    code.set(maker.below(code.size()), maker.below(32));
                    words("put", code);
                    ask("load");
                    faultsAsked();
                    break;
                default:
                    words("put", maker.anyCode());
                    ask("load");
                    faultsAsked();
                    break;
            }
            ask("compile");
            faultsAsked();
            for (int i = 0; i < 5; i++) {
                ask("code " + maker.below(Math.max(model.codeSize(), 1)));
            }
            if (maker.chance(0.2)) {
                ask("hall " + maker.within(2, 4) + " 0 1");
            }
        }
    }

    private void tampered() {
        int size = 2 + maker.below(3);
        ask("hall " + size + " " + maker.aLong() + " " + (1 + maker.below(4)));
        for (int kind = -3; kind < size; kind++) {
            ask("deal " + kind + " 40");
        }
        for (int i = 0; i < 9; i++) {
            ask("give " + i % size + " " + maker.aLong());
        }
        type(maker.oneOf("n<0;n<0;o<1;p=n*o;a:p;>a;>p;b:n;>b;", "n<0;>n;o=n^;>o;>n;", "n<0;n<0;n<0;o<1;a:o;>n;",
            "n!;a:n;?a[>n;|o<1;>o;]b=3;*b[o=o*o+n;b=b-1;]>o;", "E[1]=3;F=E*E;n=F.E;a:n;>a;H=F-E;n=H[1];>n;",
            "@1;@1;@1[n!;o<1;p=n*o+o^;>p;]@1;", "a:n;a:n;a:n;>a;", maker.program(size)));
        ask("compile");
        ask("begin");
        for (int i = 0; i < 1 + maker.below(3); i++) {
            int n = maker.below(5);
            int k = new int[] {0, 0, 0, 1, 31}[maker.below(5)];
            long e = maker.below(1000);
            ask("tamper " + maker.below(size) + " " + n + " " + k + " " + e);
            if (maker.chance(0.3)) {
                ask("tamper " + maker.below(size) + " " + n + " " + k + " " + -e);
            }
        }
        int slow = maker.below(size);
        int deliveries = 20 + maker.below(60);
        while (made < MOST_CALLS - 90) {
            if (maker.below(100) < deliveries) {
                ask("deliver " + maker.below(size) + " " + maker.below(size));
            } else if (maker.chance(0.04)) {
                ask("run 1");
            } else {
                int who = maker.below(size);
                ask("step " + (who == slow && maker.chance(0.5) ? maker.below(size) : who));
            }
        }
        look();
        ask("run 2000");
    }
}
