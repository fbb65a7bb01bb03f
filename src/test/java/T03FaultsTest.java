/** Terms: FAULTS, the characters that can't stand where they are and what else can be wrong with a tape. */
public final class T03FaultsTest {
    /** One of each statement. */
    private static final String[] STATEMENTS = {
        "n<0;", "a=1+b*(c-A[2])^;", "n=-12;", "A[3]=B[a];", "E[a]=n*o;", "A=B+C;", "E=F-A;", "H=H*G;", "n=A.E;", "a:n;", "n!;",
        ">a;", ">n;", "@1;", "@1[@1;>a;]", "?a[>b;|>c;]", "*a[a=a-1;]"
    };

    public static void main(String[] args) {
        Edge.of("kind 1: the first character that can't stand there", T03FaultsTest::firstOfStatements);
        Edge.of("kind 1: the first character that can't stand there", T03FaultsTest::withinStatements);
        Edge.of("kind 1: the first character that can't stand there", T03FaultsTest::withinExpressions);
        Edge.of("kind 1: the first character that can't stand there", T03FaultsTest::withinBlocks);
        Edge.of("blanks but passed over", T03FaultsTest::blanksArePassedOver);
        Edge.of("a nineteenth digit", T03FaultsTest::nineteenthDigit);
        Edge.of("a ( [ or - of a factor, or a [ of R[X]=, a ? or *, within twenty others of these that are open",
            T03FaultsTest::twentyOfOneKind);
        Edge.of("a ( [ or - of a factor, or a [ of R[X]=, a ? or *, within twenty others of these that are open",
            T03FaultsTest::twentyMixed);
        Edge.of("a - till its factor is over", T03FaultsTest::minusTillItsFactorIsOver);
        Edge.of("a ? or * till its ]", T03FaultsTest::blocksTillTheirEnd);
        Edge.of("(their [ and | are none of these)", T03FaultsTest::whatIsNotCounted);
        Edge.of("the [ of a ROUTINE that is told within [ ] of another one, ? or *", T03FaultsTest::toldWithin);
        Edge.of("=, : and ! behind a VARIABLE alone, = and [ behind an ARRAY alone", T03FaultsTest::behindNames);
        Edge.of("the TAPE's length, if it ends too early, also with [ open", T03FaultsTest::endsTooEarly);
        Edge.of("the TAPE's length, if it ends too early, also with [ open", T03FaultsTest::endsWithOpenBlocks);
        Edge.of("If there is none, the first place at which one of these is", T03FaultsTest::firstPlace);
        Edge.of("If there is none, the first place at which one of these is", T03FaultsTest::charactersGoAhead);
        Edge.of("kind 2: a VARIABLE of the wrong sort (v of < and !, v of =R.R, both of :, v of ? and *)", T03FaultsTest::sorts);
        Edge.of("kind 3: v of v=X; or R of R[X]=X; clear, with X secret: it", T03FaultsTest::secretToClear);
        Edge.of("an X in [ ] that is secret: its [", T03FaultsTest::secretPlaces);
        Edge.of("the first R of R=R+R; (and so on) clear, with one of the others secret: it", T03FaultsTest::secretArrays);
        Edge.of("kind 4: a J that is no PARTY's number", T03FaultsTest::noSuchParty);
        Edge.of("kind 5: the @ of a ROUTINE that is done and never told, or told, and was told before", T03FaultsTest::routines);
        Edge.end();
    }

    /** Every character where a statement may begin; the % behind it can stand nowhere. */
    private static void firstOfStatements() {
        for (int c = 33; c < 127; c++) {
            boolean letter = c >= 'a' && c <= 'z' || c >= 'A' && c <= 'H';
            boolean begins = letter || ">@?*".indexOf(c) >= 0;
            boolean closes = c == ']';
            String text = Character.toString(c) + "%";
            Desk d = new Desk();
            d.isRefused(text, 1, begins ? 1 : 0).isRefused("a=1;" + text, 1, begins ? 5 : 4);
            d.isRefused("*a[" + text, 1, begins || closes ? 4 : 3).isRefused("@1[" + text, 1, begins || closes ? 4 : 3);
            d.isRefused("?a[" + text, 1, begins || c == '|' ? 4 : 3).isRefused("?a[|" + text, 1, begins || closes ? 5 : 4);
        }
    }

    private static void withinStatements() {
        Desk d = new Desk();
        d.isRefused("a;", 1, 1).isRefused("ab=1;", 1, 1).isRefused("n>1;", 1, 1).isRefused("A;", 1, 1).isRefused("a,", 1, 1);
        d.isRefused("A[1;", 1, 3).isRefused("A[1)=1;", 1, 3).isRefused("A[1][1]=1;", 1, 4).isRefused("A[1];", 1, 4);
        d.isRefused("n<a;", 1, 2).isRefused("n<;", 1, 2).isRefused("n<12;", 1, 3).isRefused("n<1,", 1, 3);
        d.isRefused("n!!;", 1, 2).isRefused("n!1", 1, 2).isRefused("a:A;", 1, 2).isRefused("a:n+1;", 1, 3);
        d.isRefused("a:1;", 1, 2).isRefused("a::n;", 1, 2).isRefused(">1;", 1, 1).isRefused(">A;", 1, 1);
        d.isRefused(">a+1;", 1, 2).isRefused(">>a;", 1, 1).isRefused("A=B;", 1, 3).isRefused("A=B+;", 1, 4);
        d.isRefused("A=b+C;", 1, 2).isRefused("A=B+c;", 1, 4).isRefused("A=B+C+D;", 1, 5).isRefused("A=B.C;", 1, 3);
        d.isRefused("A=B^C;", 1, 3).isRefused("A=B[1]+C;", 1, 3).isRefused("A=B+C[1];", 1, 5).isRefused("A=1;", 1, 2);
        d.isRefused("A=-B;", 1, 2).isRefused("A=(B+C);", 1, 2).isRefused("A=BC;", 1, 3).isRefused("A=B C;", 1, 4);
        d.isRefused("n=AB;", 1, 3).isRefused("A=B/C;", 1, 3);
    }

    private static void withinExpressions() {
        Desk d = new Desk();
        d.isRefused("n=A;", 1, 3).isRefused("n=A.;", 1, 4).isRefused("n=A.b;", 1, 4).isRefused("n=A.B[1];", 1, 5);
        d.isRefused("n=A.B+1;", 1, 5).isRefused("n=(A.B);", 1, 4).isRefused("n=-A.B;", 1, 4).isRefused("n=1+A.B;", 1, 5);
        d.isRefused("n=A . B^;", 1, 7).isRefused("n=A+B;", 1, 3).isRefused("n=A*2;", 1, 3).isRefused("n=A[1].B;", 1, 6);
        d.isRefused("n=;", 1, 2).isRefused("n=+1;", 1, 2).isRefused("n=*1;", 1, 2).isRefused("n=1+;", 1, 4);
        d.isRefused("n=1**2;", 1, 4).isRefused("n=1++2;", 1, 4).isRefused("n=1-+2;", 1, 4).isRefused("n=1^2;", 1, 4);
        d.isRefused("n=^1;", 1, 2).isRefused("n=-^1;", 1, 3).isRefused("n=();", 1, 3).isRefused("n=(1;", 1, 4);
        d.isRefused("n=(1];", 1, 4).isRefused("n=1);", 1, 3).isRefused("n=a b;", 1, 4).isRefused("n=2a;", 1, 3);
        d.isRefused("n=a2;", 1, 3).isRefused("n=a(1);", 1, 3).isRefused("n=a[1];", 1, 3).isRefused("n=(1)(2);", 1, 5);
        d.isRefused("n=1=2;", 1, 3).isRefused("n=1,2;", 1, 3).isRefused("n=n<0;", 1, 3).isRefused("n=n!;", 1, 3);
    }

    private static void withinBlocks() {
        Desk d = new Desk();
        d.isRefused("?A[|]", 1, 1).isRefused("?a(|)", 1, 2).isRefused("?a[]", 1, 3).isRefused("?a[||]", 1, 4);
        d.isRefused("?a[|];", 1, 5).isRefused("?1[|]", 1, 1).isRefused("?a;", 1, 2).isRefused("?[|]", 1, 1);
        d.isRefused("*a[|]", 1, 3).isRefused("*a[] ;", 1, 5).isRefused("*[]", 1, 1).isRefused("*A[]", 1, 1);
        d.isRefused("*(a)[]", 1, 1).isRefused("*a+1[]", 1, 2).isRefused("@;", 1, 1).isRefused("@a;", 1, 1);
        d.isRefused("@12;", 1, 2).isRefused("@1[|]", 1, 3).isRefused("@1[];", 1, 4).isRefused("@1=", 1, 2);
        d.isRefused("@1[]]", 1, 4).isRefused("]", 1, 0).isRefused("|", 1, 0).isRefused(";", 1, 0).isRefused(";;", 1, 0);
        d.isRefused("@1[>a;|>b;]", 1, 6).isRefused("?a[>a;)|]", 1, 6).isRefused("*a[>a;", 1, 6);
    }

    private static void blanksArePassedOver() {
        Desk d = new Desk();
        d.isRefused("  ;", 1, 2).isRefused("a  ;", 1, 3).isRefused("a = ;", 1, 4).isRefused("n < a;", 1, 4);
        d.isRefused("n=1 2;", 1, 4).isRefused("A [ ] =1;", 1, 4).isRefused("? a [ ]", 1, 6).isRefused("@ 1 1;", 1, 4);
        d.isRefused(" a !;", 2, 1).isRefused("  a : b ;", 2, 6).isRefused("n = A [ n ] ;", 3, 6).isRefused("n <  9 ;", 4, 5);
        d.isRefused("   @ 1 ;", 5, 3);
    }

    private static void nineteenthDigit() {
        Desk d = new Desk();
        d.tape("n=123456789012345678;").due("compile", 12).isRefused("n=1234567890123456789;", 1, 20);
        d.isRefused("n=0000000000000000000;", 1, 20).isRefused("n=0000000000000000001", 1, 20);
        d.isRefused("n=12345678901234567890", 1, 20).isRefused("A[0000000000000000015]=1;", 1, 20);
        d.isRefused("n=123456789012345678 9;", 1, 21).isRefused("n=1+(1234567890123456789);", 1, 23);
        d.tape("n=123456789012345678+123456789012345678;").due("compile", 22);
    }

    private static void twentyOfOneKind() {
        Desk d = new Desk();
        d.tape("a=" + "(".repeat(20) + "1" + ")".repeat(20) + ";").due("compile", 12);
        d.isRefused("a=" + "(".repeat(21) + "1" + ")".repeat(21) + ";", 1, 22);
        d.tape("a=" + "-".repeat(20) + "1;").due("compile", 32);
        d.isRefused("a=" + "-".repeat(21) + "1;", 1, 22);
        d.tape("a=" + "A[".repeat(20) + "1" + "]".repeat(20) + ";").due("compile", 52);
        d.isRefused("a=" + "A[".repeat(21) + "1" + "]".repeat(21) + ";", 1, 43);
        d.tape("A[" + "(".repeat(19) + "1" + ")".repeat(19) + "]=1;").due("compile", 21);
        d.isRefused("A[" + "(".repeat(20) + "1" + ")".repeat(20) + "]=1;", 1, 21);
        d.tape("*a[".repeat(20) + "]".repeat(20)).due("compile", 141);
        d.isRefused("*a[".repeat(21) + "]".repeat(21), 1, 60);
        d.tape("?a[".repeat(20) + "|]".repeat(20)).due("compile", 141);
        d.isRefused("?a[".repeat(21) + "|]".repeat(21), 1, 60);
        d.tape("?a[|".repeat(20) + "]".repeat(20)).due("compile", 141);
        d.isRefused("?a[|".repeat(21) + "]".repeat(21), 1, 80);
    }

    private static void twentyMixed() {
        Desk d = new Desk();
        String loops = "*a[".repeat(20);
        String ends = "]".repeat(20);
        d.isRefused(loops + "a=1;b=(1);" + ends, 1, 66).isRefused(loops + "A[1]=1;" + ends, 1, 61);
        d.isRefused(loops + "a=-1;" + ends, 1, 62).isRefused(loops + "a=A[1];" + ends, 1, 63);
        d.isRefused(loops + "?b[|]" + ends, 1, 60).isRefused(loops + "*b[]" + ends, 1, 60);
        Desk fits = new Desk();
        fits.tape("*a[".repeat(19) + "a=(1);b=-1;c=A[1];A[1]=1;?b[|]*b[]" + "]".repeat(19));
        fits.due("compile", 19 * 7 + 11 + 12 + 13 + 20 + 7 + 7 + 1);
        fits.tape("?a[|".repeat(10) + "a=" + "-".repeat(5) + "(".repeat(5) + "1" + ")".repeat(5) + ";" + "]".repeat(10));
        fits.due("compile", 70 + 9 + 5 + 2 + 1);
        fits.isRefused("?a[|".repeat(10) + "a=" + "-".repeat(5) + "(".repeat(6) + "1", 1, 40 + 2 + 10);
    }

    private static void minusTillItsFactorIsOver() {
        Desk d = new Desk();
        d.tape("a=" + "(".repeat(19) + "-1*-1^+-a" + ")".repeat(19) + ";").due("compile", 29);
        d.isRefused("a=" + "(".repeat(19) + "-1*-(1)" + ")".repeat(19) + ";", 1, 25);
        d.isRefused("a=" + "-".repeat(20) + "(1);", 1, 22).isRefused("a=" + "-".repeat(20) + "A[1];", 1, 23);
        d.tape("a=" + "-".repeat(20) + "1+(1);").due("compile", 42).tape("a=" + "-".repeat(20) + "1^-(-1);").due("compile", 44);
        d.tape("a=" + "-".repeat(20) + "1*" + "-".repeat(20) + "1;").due("compile", 62);
        d.tape("a=" + "-".repeat(19) + "(1)^+" + "-".repeat(20) + "1;").due("compile", 62);
        d.tape("a=1" + "-1".repeat(30) + ";").due("compile", 9 + 300 + 3);
    }

    private static void blocksTillTheirEnd() {
        Desk d = new Desk();
        d.tape("?a[|]".repeat(30)).due("compile", 211).tape("*a[]".repeat(30)).due("compile", 211);
        d.tape("*a[".repeat(19) + "]".repeat(19) + "*a[".repeat(20) + "]".repeat(20)).due("compile", 274);
        d.tape("*a[".repeat(19) + "?b[|]?b[|]*b[]a=(1);" + "]".repeat(19)).due("compile", 19 * 7 + 7 + 7 + 7 + 11 + 1);
        d.tape("*a[".repeat(20) + "]b=(1);" + "]".repeat(19)).due("compile", 141 + 11);
        d.isRefused("?a[".repeat(20) + "|b=(1);" + "]|".repeat(19), 1, 63);
    }

    private static void whatIsNotCounted() {
        Desk d = new Desk();
        d.tape("@1[a=" + "(".repeat(20) + "1" + ")".repeat(20) + ";]").due("compile", 16);
        d.tape("@1[" + "*a[".repeat(20) + "]".repeat(20) + "]").due("compile", 145);
        d.tape("*a[".repeat(20) + "A=A+A;n=A.A;n!;a:n;n<0;>a;@1;" + "]".repeat(20) + "@1[]");
        d.due("compile", 140 + 4 + 5 + 2 + 3 + 3 + 2 + 3 + 4 + 1).tape("?a[|?a[|".repeat(10) + "a=1;" + "]".repeat(20));
        d.due("compile", 152).tape("a=(1);b=-1;c=A[1];A[1]=1;".repeat(12)).due("compile", 12 * 56 + 1);
        d.tape("A[" + "-".repeat(19) + "1]=" + "-".repeat(20) + "1;").due("compile", 18 + 39 + 3);
    }

    private static void toldWithin() {
        Desk d = new Desk();
        d.isRefused("@1[@2[]]", 1, 5).isRefused("?a[@2[]|]", 1, 5).isRefused("?a[|@2[]]", 1, 6);
        d.isRefused("*a[@2[]]", 1, 5).isRefused("@1[*a[@ 2 [ ]]]", 1, 10).isRefused("@1[@1[]]", 1, 5);
        d.isRefused("@1[>a;]?a[>a;|@2;@3[]]", 1, 19);
        d.tape("?a[|]@1[]*a[]@2[]@3[]").due("compile", 7 + 4 + 7 + 4 + 4 + 1);
    }

    private static void behindNames() {
        Desk d = new Desk();
        d.isRefused("A:n;", 1, 1).isRefused("A!;", 1, 1).isRefused("A<0;", 1, 1).isRefused("E:n;", 1, 1).isRefused("E!;", 1, 1);
        d.isRefused("A[1]:n;", 1, 4).isRefused("A[1]!;", 1, 4).isRefused("A[1]<0;", 1, 4).isRefused("E[1]!;", 1, 4);
        d.isRefused("a[1]=1;", 1, 1).isRefused("n[1]=1;", 1, 1).isRefused("a.b;", 1, 1).isRefused("A.B;", 1, 1);
        d.isRefused("1=1;", 1, 0).isRefused("(a)=1;", 1, 0).isRefused("-a=1;", 1, 0).isRefused("a+b=1;", 1, 1);
        d.isRefused("a^=1;", 1, 1).isRefused("A^=1;", 1, 1).isRefused("a]=1;", 1, 1).isRefused("=1;", 1, 0);
        d.isRefused("n:o;", 2, 0).isRefused("a!;", 2, 0).isRefused("a<0;", 2, 0).tape("A[1]=1;A=A+A;a=1;n=1;").due("compile", 47);
    }

    /** Each statement that is cut off, alone and with blanks behind it. */
    private static void endsTooEarly() {
        for (String whole : STATEMENTS) {
            for (int length = 1; length < whole.length(); length++) {
                String cut = whole.substring(0, length);
                new Desk().isRefused(cut, 1, length).isRefused(cut + "   ", 1, length + 3).isRefused(" >a;" + cut, 1, 4 + length);
            }
        }
    }

    private static void endsWithOpenBlocks() {
        Desk d = new Desk();
        d.isRefused("*a[", 1, 3).isRefused("*a[>a;", 1, 6).isRefused("?a[", 1, 3).isRefused("?a[>a;|", 1, 7);
        d.isRefused("?a[|>a;  ", 1, 9).isRefused("@1[", 1, 3).isRefused("@1[>a;", 1, 6).isRefused("*a[".repeat(20), 1, 60);
        d.isRefused("*a[]*a[*b[]", 1, 11).isRefused("@1[?a[|]", 1, 8).isRefused("@1[a<0;", 1, 7).isRefused("@1;*a[", 1, 6);
        d.isRefused(" ".repeat(397) + "*a[", 1, 400).isRefused(">a;".repeat(133) + ">", 1, 400);
    }

    private static void firstPlace() {
        Desk d = new Desk();
        d.isRefused("a<9;", 2, 0).isRefused("n<9;a!;", 4, 2).isRefused("a=n;b!;", 3, 0).isRefused("b!;a=n;", 2, 0);
        d.isRefused("n:b;", 2, 0).isRefused("@1;a<0;", 5, 0).isRefused("a<0;@1;", 2, 0).isRefused("n<9;@1;", 4, 2);
        d.isRefused("@1;n<9;", 5, 0).isRefused("a=n;@1;", 3, 0).isRefused("@1;a=n;", 5, 0).isRefused("n<9;a=n;", 4, 2);
        d.isRefused("a=n;n<9;", 3, 0).isRefused("@1[a=n;]@1[]", 3, 3).isRefused("@1[]@1[a=n;]", 5, 4);
        d.isRefused("A[n]=1;a=n;", 3, 1).isRefused("A[n]=n;", 3, 0).isRefused("a=A[n]+n;", 3, 0).isRefused("?n[a!;|]", 2, 1);
        d.isRefused("n=E[E[n]];", 3, 3).isRefused("@1;@1[]@2;", 5, 7).isRefused("@2;@1[]@1[]", 5, 0).isRefused("@1[]@1[]@2;", 5, 4);
    }

    private static void charactersGoAhead() {
        Desk d = new Desk();
        d.isRefused("a<0;n=1+;", 1, 8).isRefused("a=n;>", 1, 5).isRefused("n<9;]", 1, 4).isRefused("@1;@1[@2[]]", 1, 8);
        d.isRefused("@1;a", 1, 4).isRefused("?n[", 1, 3).isRefused("A[n]=", 1, 5).isRefused("a:b", 1, 3);
        d.isRefused("a!;n=0000000000000000000;", 1, 23).isRefused("n:o;a=" + "(".repeat(21) + "1", 1, 26);
    }

    private static void sorts() {
        Desk d = new Desk();
        d.isRefused("a<0;", 2, 0).isRefused("m<0;", 2, 0).tape("n<0;z<0;").due("compile", 7);
        d.isRefused(" a!;", 2, 1).isRefused("m!;", 2, 0).tape("n!;z!;").due("compile", 5);
        d.isRefused("a=E.F;", 2, 0).isRefused("m=A.B;", 2, 0).tape("n=A.B;z=E.F;").due("compile", 11);
        d.isRefused("n:o;", 2, 0).isRefused("z:n;", 2, 0).isRefused("a:b;", 2, 2).isRefused("n:a;", 2, 0).isRefused("a: m;", 2, 3);
        d.tape("a:n;m:z;").due("compile", 7);
        d.isRefused("?n[|]", 2, 1).isRefused("?z[|]", 2, 1).isRefused("* z[]", 2, 2).isRefused("*n[]", 2, 1);
        d.tape("?a[|]?m[|]*a[]*m[]").due("compile", 29);
        d.isRefused("?a[a!;|]", 2, 3).isRefused("?a[|a!;]", 2, 4).isRefused("@1[*a[a!;]]", 2, 6);
    }

    private static void secretToClear() {
        Desk d = new Desk();
        d.isRefused("a=n;", 3, 0).isRefused(" m=1+(2*-n^);", 3, 1).isRefused("a=E[1];", 3, 0).isRefused("b=n*0;", 3, 0);
        d.isRefused("A[1]=n;", 3, 0).isRefused("D[1]=H[1];", 3, 0).isRefused("  B[1]=1+n;", 3, 2).isRefused("A[a]=A[1]*z;", 3, 0);
        d.tape("a=b;n=b;n=o;A[1]=b;E[1]=b;E[1]=n;n=E[1];").due("compile", 65);
    }

    private static void secretPlaces() {
        Desk d = new Desk();
        d.isRefused("A[n]=1;", 3, 1).isRefused("E[n]=1;", 3, 1).isRefused("E[n]=n;", 3, 1).isRefused("n=A[n];", 3, 3);
        d.isRefused("n=E [ E[1] ];", 3, 4).isRefused("n=E[A[n]];", 3, 5).isRefused("a=A[n];", 3, 3).isRefused("n=1+E[1+n*0];", 3, 5);
        d.isRefused("A[E[1]]=1;", 3, 1).tape("n=E[A[1]];E[A[a]]=n;").due("compile", 24);
    }

    private static void secretArrays() {
        Desk d = new Desk();
        for (String sign : new String[] {"+", "-", "*"}) {
            d.isRefused("A=E" + sign + "B;", 3, 0).isRefused("A=B" + sign + "E;", 3, 0).isRefused(" D=H" + sign + "H;", 3, 1);
            d.tape("A=B" + sign + "C;E=A" + sign + "B;E=A" + sign + "F;E=F" + sign + "G;").due("compile", 17);
            d.tape("A=D" + sign + "B;D=A" + sign + "D;").due("compile", 9);
        }
    }

    private static void noSuchParty() {
        Desk d = new Desk();
        d.isRefused("n<2;", 4, 2).isRefused("n< 9;", 4, 3).tape("n<1;").due("compile", 4).due("hall 3 0 1", 1);
        d.isRefused("n<3;", 4, 2).tape("n<2;").due("compile", 4).due("hall 4 0 1", 1).isRefused("n<4;", 4, 2);
        d.tape("n<3;").due("compile", 4).due("hall 2 0 1", 1).isRefused("n<0;n<2;n<3;", 4, 6);
    }

    private static void routines() {
        Desk d = new Desk();
        d.isRefused("@1;", 5, 0).isRefused("@1[]@2;@3;", 5, 4).isRefused("@1;@1;", 5, 0).isRefused("@1[@2;]", 5, 3);
        d.isRefused("@1[]@1[]", 5, 4).isRefused("@1[] @1[]@1[]", 5, 5).isRefused("@1;@1[]@1[]", 5, 7);
        d.isRefused("@3;@2;@2[]", 5, 0).isRefused("@2;@3;@2[]", 5, 3).isRefused("?a[|@4;]", 5, 4).isRefused("@4[@5;]", 5, 3);
        d.tape("@1[@1;]").due("compile", 8).tape("@0[]@9[]@0;@0;").due("compile", 15).tape("@1;@1[]").due("compile", 8);
        d.tape("@1[]").due("compile", 5).isRefused("@2;", 5, 0).isRefused("@1;", 5, 0);
        for (int digit = 0; digit < 10; digit++) {
            d.isRefused(">a;@" + digit + ";", 5, 3).isRefused("@" + digit + "[]@" + digit + "[]", 5, 4);
            d.tape("@" + digit + ";@" + digit + "[]").due("compile", 8);
        }
    }
}
