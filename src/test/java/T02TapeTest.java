/** Terms: THE TAPE, A PROGRAM and X. */
public final class T02TapeTest {
    public static void main(String[] args) {
        Edge.of("THE TAPE has at most 400 characters, 32 .. 126", T02TapeTest::fullTape);
        Edge.of("blanks part nothing and may stand anywhere but within NUMBERS", T02TapeTest::blanksAnywhere);
        Edge.of("blanks part nothing and may stand anywhere but within NUMBERS", T02TapeTest::blanksWithinNumbers);
        Edge.of("blanks part nothing and may stand anywhere but within NUMBERS", T02TapeTest::blanksAlone);
        Edge.of("VARIABLES a .. m are clear, n .. z secret", T02TapeTest::variables);
        Edge.of("ARRAYS of 16 places (0 .. 15) A .. D clear, E .. H secret", T02TapeTest::arrays);
        Edge.of("ARRAYS of 16 places (0 .. 15) A .. D clear, E .. H secret", T02TapeTest::places);
        Edge.of("NUMBERS have 1 to 18 digits", T02TapeTest::digits);
        Edge.of("STATEMENTS (any number, none too, here and within [ ])", T02TapeTest::noStatements);
        Edge.of("STATEMENTS (any number, none too, here and within [ ])", T02TapeTest::manyStatements);
        Edge.of("v<J; v secret, J a digit: PARTY J's input", T02TapeTest::digitsOfParties);
        Edge.of("the first two ARRAYS' places added and so on one by one", T02TapeTest::arraysOneByOne);
        Edge.of("v=R.R; v secret: the sum of the products of places", T02TapeTest::sumOfProducts);
        Edge.of("@d; d a digit: ROUTINE d is done", T02TapeTest::digitsOfRoutines);
        Edge.of("nothing is done by that; it may be told behind where it is done", T02TapeTest::toldOnly);
        Edge.of("the first ones, if it is not 0, else the second ones", T02TapeTest::choices);
        Edge.of("*v[ STATEMENTS ] v clear: as long as it is not 0", T02TapeTest::loops);
        Edge.of("products parted by + or -, of factors parted by *, both from the left", T02TapeTest::fromTheLeft);
        Edge.of("with ^ behind it any number of times (its square; -a^ is the square, then - of that)", T02TapeTest::squares);
        Edge.of("It is secret, if a VARIABLE or ARRAY in it is, those within [ ] left out", T02TapeTest::whatIsSecret);
        Edge.end();
    }

    private static void fullTape() {
        Desk d = new Desk();
        d.tape("n!;".repeat(133) + " ").due("type 32 1", 0).due("compile", 267).due("code 264", 27).due("code 266", 0);
        d.tape("n!;".repeat(133) + "n").due("compile", Desk.ARGUMENT).due("fault 0", 1).due("fault 1", 400);
    }

    private static void blanksAnywhere() {
        for (String text : new String[] {"n<0;", "a=12+b*(c-3)^-A[d];", "A[10]=-2;", "E[a+1]=n;", "E=F*G;A=B+C;A=B-C;",
            "n=A.H;", "a:n;", "n!;", ">a;>n;", "@1;@1[>n;]", "?a[>a;|>b;]", "*a[a=a-1;]"}) {
            StringBuilder parted = new StringBuilder("  ");
            for (int i = 0; i < text.length(); i++) {
                boolean amid = i > 0 && Character.isDigit(text.charAt(i)) && Character.isDigit(text.charAt(i - 1));
                parted.append(amid ? "" : " ").append(text.charAt(i));
            }
            Desk plain = new Desk();
            Desk blank = new Desk();
            String length = plain.tape(text).ask("compile");
            blank.tape(parted + "   ").due("compile", length);
            for (int i = 0; i < Integer.parseInt(length); i++) {
                blank.due("code " + i, plain.ask("code " + i));
            }
        }
    }

    private static void blanksWithinNumbers() {
        Desk d = new Desk();
        d.isRefused("a=1 2;", 1, 4).isRefused("a=1   2;", 1, 6).isRefused("A[1 5]=0;", 1, 4).isRefused("a=b[1 ", 1, 3);
        d.isRefused("a=(10 0);", 1, 6).isRefused("n<0 0;", 1, 4).isRefused("@1 1;", 1, 3);
    }

    private static void blanksAlone() {
        new Desk().tape(" ").due("compile", 1).tape(" ".repeat(400)).due("type 32 1", 0).due("compile", 1).due("code 0", 0);
    }

    private static void variables() {
        Desk d = new Desk();
        d.compiles("a=m;m=a;n=z;z=n;", 2, 12, 11, 0, 2, 0, 11, 12, 3, 12, 12, 0, 3, 0, 12, 12, 0);
        d.isRefused("a=n;", 3, 0).isRefused("m=n;", 3, 0).isRefused("m=z;", 3, 0).isRefused("m!;", 2, 0);
        d.isRefused("?n[|]", 2, 1).tape("?m[|]").due("compile", 8).tape("n!;").due("compile", 3);
        d.isRefused("`=1;", 1, 0).isRefused("{=1;", 1, 0).isRefused("a=`;", 1, 2).isRefused("a={;", 1, 2);
        d.isRefused(">`;", 1, 1).isRefused(">{;", 1, 1).isRefused("a:{;", 1, 2).isRefused("?{[|]", 1, 1);
    }

    private static void arrays() {
        Desk d = new Desk();
        d.compiles("A[a]=D[a];D[a]=A[a];E[a]=H[a];H[a]=E[a];", 2, 0, 2, 0, 19, 3, 21, 0, 2, 0, 2, 0, 19, 0, 21, 3,
            2, 0, 2, 0, 20, 3, 22, 0, 2, 0, 2, 0, 20, 0, 22, 3, 0);
        d.isRefused("D[0]=E[0];", 3, 0).isRefused("D[0]=H[0];", 3, 0).isRefused("a=E[0];", 3, 0).isRefused("D=D+E;", 3, 0);
        d.isRefused("I[0]=1;", 1, 0).isRefused("n=I[0];", 1, 2).isRefused("n=A.I;", 1, 4).isRefused("n=@[0];", 1, 2);
        d.isRefused("A=I+A;", 1, 2).isRefused("A=A+I;", 1, 4).isRefused("Z[0]=1;", 1, 0);
        d.compiles("H=A*D;n=H.A;", 25, 7, 0, 3, 26, 7, 0, 12, 0, 0);
    }

    private static void places() {
        Desk d = new Desk().ready(2, "A[0]=1;A[15]=2;D[0]=3;D[15]=4;E[0]=5;E[15]=6;H[0]=7;H[15]=8;"
            + "a=A[0]*1000+A[15]*100+D[0]*10+D[15];n=E[0]*1000+E[15]*100+H[0]*10+H[15];>a;>n;").runs();
        d.outputs(0, 1234, 5678).outputs(1, 1234, 5678);
        d.due("clear 0 100", 1).due("clear 0 115", 2).due("clear 0 116", 0).due("clear 0 148", 3).due("clear 0 163", 4);
        for (String text : new String[] {"A[16]=1;", "D[16]=1;", "E[16]=1;", "H[16]=1;", "a=A[16];", "a=D[16];", "n=E[16];",
            "n=H[16];", "n=E[17];", "A[100000000000000000]=1;"}) {
            new Desk().starts(text).due("run 2000", 0).each(2, "party", " 7", 5).each(2, "party", " 0", 4);
        }
        for (String text : new String[] {"A[-1]=1;", "a=A[-1];", "E[-1]=n;", "n=E[0-1];"}) {
            new Desk().starts(text).due("run 2000", 2).each(2, "party", " 7", 5).each(2, "party", " 1", 1);
        }
    }

    private static void digits() {
        Desk d = new Desk();
        d.isRefused("a=;", 1, 2).isRefused("a=", 1, 2).isRefused("A[]=1;", 1, 2).isRefused("a=1+;", 1, 4);
        d.compiles("a=0;", 1, 0, 0, 0, 0, 0, 0, 0, 0, 11, 0, 0).compiles("a=9;", 1, 0, 0, 0, 0, 0, 0, 0, 9, 11, 0, 0);
        d.compiles("a=999999999999999999;", 1, 0x0d, 0xe0, 0xb6, 0xb3, 0xa7, 0x63, 0xff, 0xff, 11, 0, 0);
        d.compiles("a=000000000000000007;", 1, 0, 0, 0, 0, 0, 0, 0, 7, 11, 0, 0);
        d.isRefused("a=1000000000000000000;", 1, 20).isRefused("a=0000000000000000000;", 1, 20);
        d.isRefused("a=/;", 1, 2).isRefused("a=:;", 1, 2);
    }

    private static void noStatements() {
        Desk d = new Desk();
        d.compiles("", 0).compiles("@1[]", 18, 0, 4, 29, 0).compiles("*a[]", 17, 0, 0, 7, 18, 0, 0, 0);
        d.compiles("?a[|]", 17, 0, 0, 7, 18, 0, 7, 0).compiles("?a[>a;|]", 17, 0, 0, 9, 15, 0, 18, 0, 9, 0);
        d.compiles("?a[|>a;]", 17, 0, 0, 7, 18, 0, 9, 15, 0, 0);
        new Desk().starts("").each(2, "party", " 0", 2).due("step 0", 2).due("run 2000", 0);
        new Desk().starts("@1;?a[|]*a[]@1[]a=1;?a[|]").due("run 2000", 2 * 8).each(2, "party", " 0", 2);
    }

    private static void manyStatements() {
        Desk d = new Desk();
        d.tape(">a;".repeat(133)).due("compile", 267).due("begin", 1).due("run 132", 264).due("party 0 0", 1);
        d.due("run 2000", 2).each(2, "party", " 4", 133).each(2, "party", " 0", 2);
        d.tape("@1;@1[" + ">a;".repeat(130) + "]").due("compile", 268).due("begin", 1).runs().each(2, "party", " 4", 130);
        d.tape("?a[|" + ">a;".repeat(130) + "]").due("compile", 268).due("begin", 1).runs().each(2, "party", " 4", 130);
    }

    private static void digitsOfParties() {
        for (int parties = 2; parties <= 4; parties++) {
            Desk d = new Desk();
            d.due("hall " + parties + " 0 1", 1);
            for (int j = 0; j < 10; j++) {
                if (j < parties) {
                    d.compiles("n<" + j + ";", 13, 0, j, 0);
                } else {
                    d.isRefused("n<" + j + ";", 4, 2);
                }
            }
            d.isRefused("n<;", 1, 2).isRefused("n</;", 1, 2).isRefused("n<:;", 1, 2).isRefused("n<00;", 1, 3);
        }
    }

    private static void arraysOneByOne() {
        StringBuilder text = new StringBuilder("a=16;*a[a=a-1;A[a]=a+1;B[a]=a*a;]C=A+B;D=A-B;A=A*B;");
        Desk d = new Desk().starts(text.toString()).runs();
        for (long i = 0; i < 16; i++) {
            d.due("clear 0 " + (132 + i), i + 1 + i * i).due("clear 1 " + (148 + i), Math.floorMod(i + 1 - i * i, Desk.P));
            d.due("clear 0 " + (100 + i), (i + 1) * i * i).due("clear 1 " + (116 + i), i * i);
        }
        Desk secret = new Desk().ready(2, "a=16;*a[a=a-1;E[a]=a+1;F[a]=a*a;]G=E*F;H=G-E;E=E+F;a=16;*a[a=a-1;n=n*100+E[a]-H[a];]>n;");
        java.math.BigInteger sum = java.math.BigInteger.ZERO;
        for (long i = 15; i >= 0; i--) {
            long difference = i + 1 + i * i - ((i + 1) * i * i - i - 1);
            sum = sum.multiply(java.math.BigInteger.valueOf(100)).add(java.math.BigInteger.valueOf(difference));
        }
        long want = sum.mod(java.math.BigInteger.valueOf(Desk.P)).longValue();
        secret.runs().outputs(0, want).outputs(1, want);
    }

    private static void sumOfProducts() {
        String fill = "a=16;*a[a=a-1;E[a]=a+1;A[a]=a+2;]";
        long ofBoth = 0;
        long ofSecret = 0;
        for (long i = 0; i < 16; i++) {
            ofBoth += (i + 1) * (i + 2);
            ofSecret += (i + 1) * (i + 1);
        }
        new Desk().ready(2, fill + "n=E.A;o=A.E;p=E.E;q=F.E;r=B.C;>n;>o;>p;>q;>r;").runs()
            .outputs(0, ofBoth, ofBoth, ofSecret, 0, 0).outputs(1, ofBoth, ofBoth, ofSecret, 0, 0);
    }

    private static void digitsOfRoutines() {
        Desk d = new Desk();
        d.compiles("@0;@9;@0[]@9[>a;]", 28, 0, 9, 28, 0, 13, 18, 0, 10, 29, 18, 0, 16, 15, 0, 29, 0);
        d.isRefused("@/;", 1, 1).isRefused("@:;", 1, 1).isRefused("@;", 1, 1).isRefused("@10;", 1, 2).isRefused("@a;", 1, 1);
        StringBuilder text = new StringBuilder();
        for (int i = 0; i < 10; i++) {
            text.append("@").append(i).append(";").append("@").append(9 - i).append("[a=a*10+").append(9 - i).append(";]");
        }
        new Desk().starts(text.toString()).runs().clears(0, 123456789).clears(1, 123456789);
    }

    private static void toldOnly() {
        new Desk().starts("@1[a=1;]b=2;@2[@1;]").due("run 2000", 2 * 3).clears(0, 0, 2);
        new Desk().starts("@1;b=2;@1[a=1;]").due("run 2000", 2 * 5).clears(0, 1, 2);
        new Desk().starts("@1[a=a+1;]@1;@1;").due("run 2000", 2 * 9).clears(1, 2);
    }

    private static void choices() {
        for (String value : new String[] {"0", "1", "2", "-1", "1-1", "999999999999999999"}) {
            boolean none = value.equals("0") || value.equals("1-1");
            Desk d = new Desk().starts("a=" + value + ";?a[b=5;c=6;|d=7;]e=8;").runs();
            d.due("clear 0 1", none ? 0 : 5).due("clear 0 2", none ? 0 : 6).due("clear 0 3", none ? 7 : 0).due("clear 0 4", 8);
        }
        new Desk().starts("m=1;?l[a=1;|?m[a=2;|a=3;]]").runs().clears(0, 2);
    }

    private static void loops() {
        for (int times = 0; times < 4; times++) {
            new Desk().starts("a=" + times + ";*a[b=b+3;a=a-1;]c=1;").runs().clears(0, 0, 3 * times, 1);
        }
        new Desk().starts("a=-1;*a[a=a+1;b=b+1;]").runs().clears(0, 0, 1);
        new Desk().starts("a=2;*a[b=2;*b[b=b-1;c=c+1;]a=a-1;]").runs().clears(1, 0, 0, 4);
    }

    private static void fromTheLeft() {
        new Desk().starts("a=100-2-3;b=100-2+3;c=2*3-4*5;d=2-3*4*5;e=10-2*3-1;f=(1+2)*3;g=2*-3;h=2--3;i=10-(2-3);").runs()
            .clears(0, 95, 101, Desk.P - 14, Desk.P - 58, 3, 9, Desk.P - 6, 5, 11);
        new Desk().compiles("a=b-c+d;", 2, 1, 2, 2, 5, 2, 3, 4, 11, 0, 0).compiles("a=b*c*d;", 2, 1, 2, 2, 6, 2, 3, 6, 11, 0, 0);
    }

    private static void squares() {
        Desk d = new Desk();
        d.compiles("a=a^;", 2, 0, 9, 11, 0, 0).compiles("a=-a^;", 2, 0, 9, 8, 11, 0, 0);
        d.compiles("a=(-a)^;", 2, 0, 8, 9, 11, 0, 0).compiles("n=-n^^;", 3, 0, 10, 10, 8, 12, 0, 0);
        d.tape("a=b" + "^".repeat(396) + ";").due("compile", 2 + 396 + 2 + 1).due("code 2", 9).due("code 397", 9);
        d.due("code 398", 11);
        new Desk().starts("a=3^;b=3^^;c=-3^;d=(-3)^;e=(1+2)^;A[1]=2;f=A[1]^^^;g=--3^;").runs()
            .clears(0, 9, 81, Desk.P - 9, 9, 9, 256, 9);
    }

    private static void whatIsSecret() {
        Desk d = new Desk();
        d.tape("a=A[B[b]];").due("compile", 9).isRefused("a=b+E[0];", 3, 0).isRefused("a=b*(c-(-n^));", 3, 0);
        d.compiles("n=A[a]*n;", 2, 0, 19, 0, 3, 0, 6, 12, 0, 0).compiles("n=E[a]*n;", 2, 0, 20, 0, 3, 0, 7, 12, 0, 0);
        d.compiles("n=A[a]^;", 2, 0, 19, 0, 9, 12, 0, 0).compiles("n=E[a]^;", 2, 0, 20, 0, 10, 12, 0, 0);
        d.isRefused("a=A[n];", 3, 3).isRefused("n=A[n]^;", 3, 3).isRefused("A[A[n]]=1;", 3, 3);
    }
}
