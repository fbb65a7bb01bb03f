/** Promise 7: the latest fault, and all faults that a tape can have. */
public final class P07FaultTest {
    public static void main(String[] args) {
        asked();
        characters();
        numbers();
        depth();
        depthOfBlocks();
        sorts();
        secrets();
        routines();
        whichIsFirst();
        Desk.end();
    }

    private static void asked() {
        Desk d = new Desk();
        d.due("fault 0", 0).due("fault 1", 0).due("fault 2", -1).due("fault -1", -1).due("fault 2147483647", -1);
        d.due("fault -2147483648", -1);
        d.isRefused("n<7;", 4, 2).due("hall 2 0 1", 1).due("fault 0", 4).due("fault 1", 2).due("begin", 0);
        d.due("fault 0", 4).due("load", Desk.ARGUMENT).due("fault 0", 1).due("fault 1", 0);
        d.isRefused("a<7;", 2, 0).due("compile", 1).due("fault 0", 0).due("fault 1", 0);
        d.isNotLoaded(2, 1, 0, 18, 9, 9, 0).due("fault 1", 1).loads(1, 0).due("fault 1", 0);
    }

    private static void characters() {
        Desk d = new Desk();
        for (String c : new String[] {";", "]", "|", "[", "(", ")", "1", "I", "Z", "=", "<", ":", "!", ".", "+", "-", "^",
            "$", "#", "~", "\"", "_"}) {
            d.isRefused(c, 1, 0).isRefused("  " + c, 1, 2).isRefused("a=1;" + c, 1, 4);
        }
        statements();
        expressions();
        blocks();
    }

    private static void statements() {
        Desk d = new Desk();
        d.isRefused("a", 1, 1).isRefused("a  ", 1, 3).isRefused("a;", 1, 1).isRefused("a[1]=1;", 1, 1);
        d.isRefused("ab=1;", 1, 1).isRefused("n>1;", 1, 1).isRefused("A;", 1, 1).isRefused("A<0;", 1, 1);
        d.isRefused("A:n;", 1, 1).isRefused("A!;", 1, 1).isRefused("A[1]:n;", 1, 4).isRefused("A[1]!;", 1, 4);
        d.isRefused("A[1]<0;", 1, 4).isRefused("A[1][1]=1;", 1, 4).isRefused("A[]=1;", 1, 2).isRefused("A[1;", 1, 3);
        d.isRefused("n<a;", 1, 2).isRefused("n<;", 1, 2).isRefused("n<12;", 1, 3).isRefused("n<1 2;", 1, 4);
        d.isRefused("n!!;", 1, 2).isRefused("n!", 1, 2).isRefused("a:A;", 1, 2).isRefused("a:n+1;", 1, 3);
        d.isRefused("a:1;", 1, 2).isRefused(">1;", 1, 1).isRefused(">A;", 1, 1).isRefused(">a+1;", 1, 2);
        d.isRefused("A=B;", 1, 3).isRefused("A=B+;", 1, 4).isRefused("A=b+C;", 1, 2).isRefused("A=B+c;", 1, 4);
        d.isRefused("A=B+C+D;", 1, 5).isRefused("A=B.C;", 1, 3).isRefused("A=B^C;", 1, 3).isRefused("A=B[1]+C;", 1, 3);
        d.isRefused("A=1;", 1, 2);
    }

    private static void expressions() {
        Desk d = new Desk();
        d.isRefused("n=A;", 1, 3).isRefused("n=A.;", 1, 4).isRefused("n=A.b;", 1, 4);
        d.isRefused("n=A.B+1;", 1, 5).isRefused("n=(A.B);", 1, 4).isRefused("n=-A.B;", 1, 4).isRefused("n=1+A.B;", 1, 5);
        d.isRefused("n=A . B^;", 1, 7).isRefused("n=A+B;", 1, 3).isRefused("n=A*2;", 1, 3).isRefused("n=A", 1, 3);
        d.isRefused("n=;", 1, 2).isRefused("n=+1;", 1, 2).isRefused("n=1+;", 1, 4).isRefused("n=1**2;", 1, 4);
        d.isRefused("n=1^2;", 1, 4).isRefused("n=^1;", 1, 2).isRefused("n=();", 1, 3).isRefused("n=(1;", 1, 4);
        d.isRefused("n=1);", 1, 3).isRefused("n=a b;", 1, 4).isRefused("n=2a;", 1, 3).isRefused("n=a(1);", 1, 3);
        d.isRefused("n=1", 1, 3).isRefused("n=(1", 1, 4).isRefused("n=A[1", 1, 5).isRefused("n=-", 1, 3);
    }

    private static void blocks() {
        Desk d = new Desk();
        d.isRefused("?A[|]", 1, 1).isRefused("?a(|)", 1, 2).isRefused("?a[]", 1, 3).isRefused("?a[|", 1, 4);
        d.isRefused("?a[||]", 1, 4).isRefused("?a[|];", 1, 5).isRefused("?1[|]", 1, 1).isRefused("?a;", 1, 2);
        d.isRefused("*a[|]", 1, 3).isRefused("*a[", 1, 3).isRefused("*a[] ;", 1, 5).isRefused("*[]", 1, 1);
        d.isRefused("@;", 1, 1).isRefused("@a;", 1, 1).isRefused("@1", 1, 2).isRefused("@12;", 1, 2);
        d.isRefused("@1[", 1, 3).isRefused("@1[|]", 1, 3).isRefused("@1[];", 1, 4).isRefused("@1=", 1, 2);
        d.isRefused("@1[@2[]]", 1, 5).isRefused("?a[@2[]|]", 1, 5).isRefused("?a[|@2[]]", 1, 6);
        d.isRefused("*a[@2[]]", 1, 5).isRefused("@1[*a[@ 2 [ ]]]", 1, 10).isRefused("@1[]]", 1, 4);
        d.isRefused("n=1;n=2;   ?", 1, 12).isRefused("n=1;n=2;@   ", 1, 12);
    }

    private static void numbers() {
        Desk d = new Desk();
        d.isRefused("n=1234567890123456789;", 1, 20).isRefused("n=0000000000000000000;", 1, 20);
        d.isRefused("n=123456789012345678 9;", 1, 21).isRefused("n=1 2;", 1, 4).isRefused("n=1   2;", 1, 6);
        d.isRefused("A[1 2]=1;", 1, 4).isRefused("n=12345678901234567890", 1, 20);
        d.tape("n=123456789012345678;").due("compile", 12);
    }

    private static void depth() {
        Desk d = new Desk();
        d.tape("a=" + "(".repeat(20) + "1" + ")".repeat(20) + ";").due("compile", 12);
        d.isRefused("a=" + "(".repeat(21) + "1" + ")".repeat(21) + ";", 1, 22);
        d.tape("a=" + "-".repeat(20) + "1;").due("compile", 32);
        d.isRefused("a=" + "-".repeat(21) + "1;", 1, 22);
        d.tape("a=" + "A[".repeat(20) + "1" + "]".repeat(20) + ";").due("compile", 52);
        d.isRefused("a=" + "A[".repeat(21) + "1" + "]".repeat(21) + ";", 1, 43);
        d.tape("A[" + "(".repeat(19) + "1" + ")".repeat(19) + "]=" + "-".repeat(20) + "1;").due("compile", 41);
        d.isRefused("A[" + "(".repeat(20) + "1" + ")".repeat(20) + "]=1;", 1, 21);
        d.tape("a=" + "-".repeat(10) + "(".repeat(10) + "1" + ")".repeat(10) + "-" + "-".repeat(20) + "1;");
        d.due("compile", 52);
        d.isRefused("a=" + "-".repeat(10) + "(".repeat(10) + "-1" + ")".repeat(10) + ";", 1, 22);
        d.tape("a=" + "(".repeat(19) + "-1*-1^+-a" + ")".repeat(19) + ";").due("compile", 29);
        d.isRefused("a=" + "(".repeat(19) + "-1*-(1)" + ")".repeat(19) + ";", 1, 25);
        d.tape("@1[a=" + "(".repeat(20) + "1" + ")".repeat(20) + ";]").due("compile", 16);
    }

    private static void depthOfBlocks() {
        Desk d = new Desk();
        d.tape("*a[".repeat(20) + "]".repeat(20)).due("compile", 141);
        d.isRefused("*a[".repeat(21) + "]".repeat(21), 1, 60);
        d.tape("?a[".repeat(20) + "|]".repeat(20)).due("compile", 141);
        d.isRefused("?a[".repeat(21) + "|]".repeat(21), 1, 60);
        d.isRefused("?a[|".repeat(21) + "]".repeat(21), 1, 80);
        d.tape("*a[".repeat(19) + "a=(1);b=-1;c=A[1];A[1]=1;" + "]".repeat(19));
        d.due("compile", 19 * 7 + 11 + 12 + 13 + 20 + 1);
        d.tape("?a[|]".repeat(30)).due("compile", 211).tape("*a[]".repeat(30)).due("compile", 211);
        d.tape("a=(1);b=-1;c=A[1];A[1]=1;".repeat(12)).due("compile", 12 * 56 + 1);
        d.isRefused("*a[".repeat(20) + "a=1;b=(1);" + "]".repeat(20), 1, 66);
        d.isRefused("*a[".repeat(20) + "A[1]=1;" + "]".repeat(20), 1, 61);
        d.isRefused("*a[".repeat(20) + "a=-1;" + "]".repeat(20), 1, 62);
        d.isRefused("*a[".repeat(20) + "A=A+A;@1;>a;a=A[1];" + "]".repeat(20), 1, 75);
        d.tape("*a[".repeat(19) + "]".repeat(19) + "*a[".repeat(20) + "]".repeat(20)).due("compile", 274);
    }

    private static void sorts() {
        Desk d = new Desk();
        d.isRefused("a<0;", 2, 0).isRefused("m<0;", 2, 0).isRefused(" a!;", 2, 1).isRefused("m!;", 2, 0);
        d.isRefused("a=E.F;", 2, 0).isRefused("m=A.B;", 2, 0).isRefused("n:o;", 2, 0).isRefused("a:b;", 2, 2);
        d.isRefused("n:a;", 2, 0).isRefused("a: m;", 2, 3).isRefused("?n[|]", 2, 1).isRefused("* z[]", 2, 2);
        d.isRefused("?a[a!;|]", 2, 3).isRefused("@1[*a[a!;]]", 2, 6);
        d.isRefused("n<2;", 4, 2).isRefused("n< 9;", 4, 3).due("hall 3 0 1", 1).tape("n<2;").due("compile", 4);
        d.isRefused("n<3;", 4, 2);
    }

    private static void secrets() {
        Desk d = new Desk();
        d.isRefused("a=n;", 3, 0).isRefused(" m=1+(2*-n^);", 3, 1).isRefused("a=E[1];", 3, 0);
        d.isRefused("A[1]=n;", 3, 0).isRefused("D[1]=H[1];", 3, 0).isRefused("A[n]=1;", 3, 1);
        d.isRefused("E[n]=1;", 3, 1).isRefused("n=A[n];", 3, 3).isRefused("n=E [ E[1] ];", 3, 4);
        d.isRefused("n=E[E[n]];", 3, 3).isRefused("n=E[A[n]];", 3, 5).isRefused("a=A[n];", 3, 3);
        d.isRefused("a=A[n]+n;", 3, 0).isRefused("A[n]=n;", 3, 0).isRefused("E[n]=n;", 3, 1);
        d.isRefused("A=E+B;", 3, 0).isRefused("A=B-E;", 3, 0).isRefused(" D=H*H;", 3, 1);
        d.tape("n=A[a];E[a]=n;E=A*B;n=E[A[1]];").due("compile", 32);
    }

    private static void routines() {
        Desk d = new Desk();
        d.isRefused("@1;", 5, 0).isRefused("@1[]@2;@3;", 5, 4).isRefused("@1[]@1[]", 5, 4);
        d.isRefused("@3;@2;@2[]", 5, 0).isRefused("@2;@3;@2[]", 5, 3).isRefused("@1[] @1[]@1[]", 5, 5);
        d.isRefused("?a[|@4;]", 5, 4).isRefused("@4[@5;]", 5, 3);
        d.tape("@1[@1;]").due("compile", 8);
    }

    private static void whichIsFirst() {
        Desk d = new Desk();
        d.isRefused("a<0;n=1+;", 1, 8).isRefused("@1;a<0;", 5, 0).isRefused("a<0;@1;", 2, 0);
        d.isRefused("a<9;", 2, 0).isRefused("n<9;a!;", 4, 2).isRefused("a=n;b!;", 3, 0).isRefused("n:b;", 2, 0);
        d.isRefused("@1[a=n;]@1[]", 3, 3).isRefused("@1[]@1[a=n;]", 5, 4).isRefused("A[n]=1;a=n;", 3, 1);
    }
}
