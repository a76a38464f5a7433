/** For each promise of the document: ordinary inputs, the edges that it names, and wrong inputs. */
public final class PromiseTest {
    private static int wrong = 0;
    private static int asked = 0;

    private static void due(String what, long got, long want) {
        asked++;
        if (got != want) {
            wrong++;
            System.out.println(what + " answered " + got + ", due is " + want);
        }
    }

    private static void due(String what, boolean got, boolean want) {
        due(what, got ? 1 : 0, want ? 1 : 0);
    }

    private static void dueFault(String text, int kind, int place) {
        CallSlicer x = new CallSlicer();
        due("program() of '" + text + "'", Feeding.program(x, text), -2);
        due("fault() of '" + text + "'", x.fault(), kind + 8 * place);
    }

    private static long bits(int... numbers) {
        long all = 0;
        for (int n : numbers) {
            all |= 1L << n;
        }
        return all;
    }

    private static String times(String part, int n) {
        return part.repeat(n);
    }

    public static void main(String[] args) {
        newObject();
        feedAndEnd();
        program();
        faults();
        deepFaults();
        count();
        of();
        hangsByValue();
        hangsByWay();
        begun();
        summary();
        backAndForth();
        backOf();
        kept();
        run();
        runEnds();
        runKept();
        ended();
        saw();
        System.out.println(asked - wrong + " passed, " + wrong + " failed");
        if (wrong != 0) {
            System.exit(1);
        }
    }

    /** Promise 1. */
    private static void newObject() {
        CallSlicer x = new CallSlicer();
        for (int what = 0; what < 6; what++) {
            due("new count(" + what + ")", x.count(what), 0);
        }
        due("new fault()", x.fault(), 0);
        due("new of", x.of(0, 0), -1);
        due("new hangs", x.hangs(0, 0), 0);
        due("new begun", x.begun(0), 0);
        due("new summary", x.summary(0, 0, 0), false);
        due("new back", x.back(0), -1);
        due("new forth", x.forth(0), -1);
        due("new between", x.between(0, 0), -1);
        due("new backOf", x.backOf(0, 0), -1);
        due("new kept", x.kept(0), -1);
        due("new run", x.run(1, 2), -1);
        due("new runKept", x.runKept(0, 1, 2), -1);
        due("new ended", x.ended(0), -1);
        due("new saw", x.saw(0, -1), 0);
        due("NONE", CallSlicer.NONE, -1);
    }

    /** Promises 2 and 3. */
    private static void feedAndEnd() {
        CallSlicer x = new CallSlicer();
        for (int i = 1; i <= 25; i++) {
            due("feed " + i, x.feed(-1, 0, 1, 2, 3), 20 * i);
        }
        due("feed of too much", x.feed(0, 0, 0, 0, 0), -1);
        due("none came", x.count(5), 500);
        due("end(501)", x.end(501), false);
        due("end(-1)", x.end(-1), false);
        due("end(min)", x.end(Integer.MIN_VALUE), false);
        due("end(500)", x.end(500), true);
        due("end(481)", x.end(481), true);
        due("feed behind 481", x.feed(0, 0, 0, 0, 0), -1);
        due("end(480)", x.end(480), true);
        due("end(481) then", x.end(481), false);
        due("feed behind 480", x.feed(0, 0, 0, 0, 0), 500);
        due("end(0)", x.end(0), true);
        due("empty", x.count(5), 0);
        int open = 'A' << 24 | '{' << 16 | '^' << 8 | 'a';
        int close = ';' << 24 | '}' << 16 | 0xFFFF;
        due("highest first", x.feed(open, close, -1, -1, -1), 20);
        due("end(6)", x.end(6), true);
        due("program", x.program(), 1);
        due("run", x.run(77, 0), 0);
        due("value", x.ended(1), 77);
    }

    /** Promise 4. */
    private static void program() {
        CallSlicer x = Feeding.with("A{w=5;^a;}");
        due("tape is empty then", x.count(5), 0);
        x.run(3, 0);
        due("a fault", Feeding.program(x, "A{w=;}"), -2);
        due("the tape is empty behind a fault", x.count(5), 0);
        due("the program stays", x.count(0), 2);
        due("its run stays", x.ended(1), 3);
        due("what it saw stays", x.saw(0, 0), 5);
        due("its slices stay", x.back(1), bits(1));
        due("an empty procedure", Feeding.program(x, " A\n{ } "), 0);
        due("nothing was run", x.ended(0), -1);
        due("nothing was seen", x.saw(0, -1), 0);
        due("slices are the new program's", x.back(1), -1);
        Feeding.program(x, "A{w=5;}");
        x.run(0, 0);
        due("it saw", x.saw(0, -1), 1);
        Feeding.program(x, "A{w=5;}");
        due("not the new one", x.saw(0, -1), 0);
        due("forty", Feeding.program(x, "A{" + times("a=1;", 40) + "}"), 40);
        due("blanks", Feeding.program(x, "A { a = B ( 1 , b ) ; } \n B{ ^ 999 ; }"), 2);
        due("run", x.run(0, 0), 0);
        due("saw", x.saw(0, 0), 999);
        due("four in turn", Feeding.program(x, "A{^1;}"), 1);
        due("its run", x.run(0, 0), 0);
        due("its value", x.ended(1), 1);
        due("five hundred bytes", Feeding.program(x, "A{^1;" + times(" ", 494) + "}"), 1);
    }

    /** Promise 5. */
    private static void faults() {
        dueFault("", 1, 0);
        dueFault(" \n ", 1, 3);
        dueFault("a", 1, 0);
        dueFault("B{}", 3, 0);
        dueFault("Z", 3, 0);
        dueFault("A", 1, 1);
        dueFault("A{", 1, 2);
        dueFault("A{}}", 1, 3);
        dueFault("A{}A{}", 3, 3);
        dueFault("A{} C{}", 3, 4);
        dueFault("A{}B{}C{}D{}E{}F{}", 3, 15);
        dueFault("A{}B{}C{}D{}E{}A{}", 3, 15);
        dueFault("A{}1", 1, 3);
        dueFault("A{1234=a;}", 1, 2);
        dueFault("A{a=1234;}", 2, 4);
        dueFault("A{a=0000;}", 2, 4);
        dueFault("A{a=12 34;}", 1, 7);
        dueFault("A{a=1+99999999999;}", 2, 6);
        dueFault("A{a=1 + b + c;}", 1, 10);
        dueFault("A{a=1", 1, 5);
        dueFault("A{a=1 ", 1, 6);
        dueFault("A{g=1;}", 1, 2);
        dueFault("A{v=1;}", 1, 2);
        dueFault("A{a=g;}", 1, 4);
        dueFault("A{a=>;}", 1, 4);
        dueFault("A{a>b;}", 1, 3);
        dueFault("A{w=A(1,2);}", 1, 4);
        dueFault("A{a=F(1,2);}", 1, 4);
        dueFault("A{a=A 1,2);}", 1, 6);
        dueFault("A{a=A(1 2);}", 1, 8);
        dueFault("A{a=A(1,2;}", 1, 9);
        dueFault("A{a=A(1,B(1,2));}", 1, 8);
        dueFault("A{?a<b;}", 1, 6);
        dueFault("A{?a{}}", 1, 4);
        dueFault("A{@a<b{}:{}}", 1, 8);
        dueFault("A{?a<b{}:a=1;}", 1, 9);
        dueFault("A{?a<b{}.}", 1, 8);
        dueFault("A{!;}", 1, 3);
        dueFault("A{^a+b;}", 1, 4);
        dueFault("A{%{}w{}}", 1, 5);
        dueFault("A{%{}{}}", 1, 5);
        dueFault("A{%{}a}", 1, 6);
        dueFault("A{%a{}}", 1, 3);
        dueFault("A{\t}", 1, 2);
        dueFault("A{" + (char) 225 + "=1;}", 1, 2);
        dueFault("A{" + (char) 0 + "}", 1, 2);
        CallSlicer x = Feeding.with("A{}");
        Feeding.program(x, "B");
        due("a fault", x.fault(), 3);
        Feeding.program(x, "A{}");
        due("none then", x.fault(), 0);
    }

    private static void deepFaults() {
        dueFault("A{" + times("a=1;", 40) + "b=1;}", 4, 162);
        dueFault("A{" + times("a=1;", 40) + "  ^1;}", 4, 164);
        dueFault("A{" + times("a=1;", 40) + "*", 1, 162);
        dueFault("A{" + times("a=1;", 40) + "%{a=1;}b{}}", 4, 164);
        dueFault("A{" + times("a=1;", 39) + "?1<2{b=?", 4, 163);
        dueFault("A{" + times("a=1;", 39) + "}B{^1;^2;}", 4, 164);
        dueFault("A{" + times("%{", 7) + "}", 4, 15);
        dueFault("A{" + times("%{", 6) + "?a<b {", 4, 19);
        dueFault("A{" + times("%{", 6) + "?a<b a", 1, 19);
        dueFault("A{a=B(1,2);}", 5, 12);
        dueFault("A{a=B(1,2);} ", 5, 13);
        dueFault("A{a=E(1,2);}B{a=B(1,2);}", 5, 24);
        dueFault("A{a=A(1,2);}", 6, 12);
        dueFault("A{^1;}B{a=C(1,2);}C{a=B(1,2);^1;}", 6, 33);
        dueFault("A{a=1234;a=B(1,2);", 2, 4);
        CallSlicer x = new CallSlicer();
        dueFault("A{" + times(" ", 494) + "a=12", 1, 500);
        dueFault("A{" + times(" ", 492) + "a=1234", 2, 496);
        due("six deep", Feeding.program(x, "A{" + times("%{", 6) + "a=1;" + times("}b{}", 6) + "}"), 1);
        due("its depth", x.of(0, 2), 6);
        due("it is done", x.run(0, 0) + x.ended(2), 1);
        Feeding.program(x, "A{" + times("?1<0{}:{", 6) + "w=1;" + times("}", 6) + "}");
        due("six deep behind :", x.run(0, 0) + x.ended(3), 1);
        Feeding.program(x, "A{" + times("@w<1{", 5) + "%{!1;}b{w=b;}" + times("}", 5) + "}");
        due("six deep in loops", x.run(0, 0) + x.ended(3), 1);
        due("trys are not numbered", Feeding.program(x, "A{" + times("%{}a{}", 82) + "}"), 0);
        due("forty with a try", Feeding.program(x, "A{" + times("a=1;", 40) + "%{}b{}}"), 40);
        due("it may end by its test", Feeding.program(x, "A{?a<1{^1;}b=A(a,b);}"), 3);
        due("it may throw alone", Feeding.program(x, "A{b=B(1,2);}B{!1;}"), 2);
        due("each of two may end", Feeding.program(x, "A{^1;}B{a=C(1,2);}C{?a<1{^2;}a=B(1,2);}"), 5);
    }

    /** Promise 6. */
    private static void count() {
        CallSlicer x = Feeding.with("A{a=B(1,2);%{b=C(a,a);}c{}}B{!1;}C{?a<b{!2;}}D{@0<1{}}");
        due("statements", x.count(0), 6);
        due("procedures", x.count(1), 4);
        due("calls", x.count(2), 2);
        due("may throw: B, C, and A by B", x.count(3), 7);
        due("may return: C, D; A only behind B, which never returns", x.count(4), 12);
        x.feed(0, 0, 0, 0, 0);
        due("tape", x.count(5), 20);
        due("another", x.count(6), -1);
        due("another", x.count(-1), -1);
        CallSlicer y = Feeding.with("A{%{a=B(1,2);}e{}}B{!1;}");
        due("caught, A throws not", y.count(3), 2);
        due("and returns", y.count(4), 1);
        CallSlicer z = Feeding.with("A{%{!1;}e{!e;}}");
        due("a catch that throws", z.count(3), 1);
        due("and never returns", z.count(4), 0);
        CallSlicer d = Feeding.with("A{^1;!2;}");
        due("behind a return nothing is thrown", d.count(3), 0);
    }

    /** Promise 7. */
    private static void of() {
        String text = "A{ a=1; %{ b=B(a,1); ?a<b{ !3; }:{ ^4; } } e{ c=e; } @a<c{ a=a+1; } } B{ %{!1;} a{} }";
        CallSlicer x = Feeding.with(text);
        int[] kinds = {0, 1, 2, 4, 5, 0, 3, 0, 4};
        int[] deep = {0, 1, 1, 2, 2, 1, 0, 1, 1};
        int[] caught = {-2, 5, 5, 5, 5, -2, -2, -2, -2};
        int[] decides = {0, 0, 1, 1, 1, 0, 1, 0, 1};
        String begins = "a=1; b=B( ?a< !3; ^4; c=e; @a< a=a+ !1;";
        String[] begin = begins.split(" ");
        for (int s = 0; s < kinds.length; s++) {
            due("kind of " + s, x.of(s, 0), kinds[s]);
            due("procedure of " + s, x.of(s, 1), s == 8 ? 1 : 0);
            due("depth of " + s, x.of(s, 2), deep[s]);
            due("callee of " + s, x.of(s, 3), s == 1 ? 1 : -2);
            due("byte of " + s, x.of(s, 4), text.indexOf(begin[s]));
            due("catch of " + s, x.of(s, 5), caught[s]);
            due("deciding of " + s, x.of(s, 6), decides[s]);
            due("another of " + s, x.of(s, 7), -1);
            due("another of " + s, x.of(s, -1), -1);
        }
        due("no statement", x.of(9, 0), -1);
        due("no statement", x.of(-1, 0), -1);
        due("no statement", x.of(Integer.MAX_VALUE, 3), -1);
        CallSlicer y = Feeding.with("A{%{%{a=1;}b{!2;}!3;}c{%{}d{d=4;}^c;}%{!5;}e{}^6;}");
        due("an empty catch", y.of(0, 5), 1);
        due("a catch within a try", y.of(1, 5), 4);
        due("behind the inner try", y.of(2, 5), 4);
        due("within a catch", y.of(3, 5), -2);
        due("no statement in the catch", y.of(5, 5), -2);
        CallSlicer z = Feeding.with("A{a=B(1,2);%{b=C(1,2);}e{}}B{^1;}C{!1;}");
        due("a call of what may not throw", z.of(0, 6), 0);
        due("a call of what may throw", z.of(1, 6), 1);
    }

    /** Promise 8, by value. */
    private static void hangsByValue() {
        CallSlicer x = Feeding.with("A{c=a;d=c+c;c=1;w=d;e=B(c,d);^e;}B{^a;x=a;}");
        due("a use", x.hangs(1, 0), 1);
        due("told again", x.hangs(4, 0), 0);
        due("an operand of a call", x.hangs(4, 2), 1);
        due("the other one", x.hangs(4, 1), 1);
        due("a field into a call", x.hangs(4, 3), 1);
        due("what a call brings", x.hangs(5, 4), 1);
        due("not what is within it", x.hangs(5, 6), 0);
        due("not itself", x.hangs(4, 4), 0);
        CallSlicer y = Feeding.with("A{@a<b{a=B(a,a);}^w;}B{w=1;}");
        due("a loop on a call in it", y.hangs(0, 1), 1);
        due("a call on itself, around a loop", y.hangs(1, 1), 1);
        due("a call that the loop decides", y.hangs(1, 0), 2);
        due("a field that a call brings", y.hangs(2, 1), 1);
        CallSlicer z = Feeding.with("A{c=1;%{c=B(a,b);d=c;}e{f=c;f=e;}^d;}B{?a<b{!a;}^b;}");
        due("as it goes on, its variable", z.hangs(2, 1), 3);
        due("thrown, the variable is as it was", z.hangs(3, 0), 1);
        due("thrown, its variable is not told", z.hangs(3, 1), 2);
        due("the catch's variable is told", z.hangs(4, 1), 3);
        CallSlicer t = Feeding.with("A{%{?a<b{!5;}}c{d=c;}^d;}");
        due("a throw tells the catch's variable", t.hangs(2, 1), 3);
        CallSlicer u = Feeding.with("A{c=3;?a<b{^c;}d=c;}");
        due("two uses", u.hangs(2, 0), 1);
        due("a return decides", u.hangs(3, 2), 2);
        CallSlicer v = Feeding.with("A{w=1;^2;w=3;c=w;}");
        due("behind a return, what is told there", v.hangs(3, 2), 1);
        due("no way leads there", v.hangs(3, 0), 0);
        due("but by way", v.hangs(3, 1), 2);
    }

    /** Promise 8, by way. */
    private static void hangsByWay() {
        CallSlicer x = Feeding.with("A{?a<b{c=1;}:{c=2;}d=3;@a<b{e=4;}f=5;}");
        due("the first block", x.hangs(1, 0), 2);
        due("the other one", x.hangs(2, 0), 2);
        due("behind both", x.hangs(3, 0), 0);
        due("a loop on itself", x.hangs(4, 4), 2);
        due("within a loop", x.hangs(5, 4), 2);
        due("behind a loop", x.hangs(6, 4), 0);
        CallSlicer y = Feeding.with("A{?a<b{}:{}@a<b{}^1;c=2;}");
        due("an empty test decides nothing", y.hangs(1, 0), 0);
        due("an empty loop decides itself", y.hangs(1, 1), 2);
        due("behind a return", y.hangs(3, 2), 2);
        CallSlicer z = Feeding.with("A{a=B(1,2);b=1;c=C(1,2);d=2;}B{!1;}C{^1;}");
        due("behind a call of what only throws", z.hangs(1, 0), 2);
        due("behind one of what only returns", z.hangs(3, 2), 0);
        due("but on the one ahead of it", z.hangs(3, 0), 2);
        CallSlicer t = Feeding.with("A{@a<b{?a<1{!2;}c=3;}d=4;}");
        due("a throw within a loop: what stands behind", t.hangs(3, 2), 2);
        due("the loop", t.hangs(0, 2), 2);
        due("behind the loop: sure from neither of the two", t.hangs(4, 2), 0);
        due("nor by the test", t.hangs(4, 1), 0);
        due("but by the loop", t.hangs(4, 0), 2);
        due("none such", t.hangs(5, 0), 0);
        due("none such", t.hangs(0, -1), 0);
    }

    /** Promise 9. */
    private static void begun() {
        CallSlicer x = Feeding.with("A{a=1;?a<b{c=1;}@a<b{d=2;}?b<a{^3;}e=4;}B{%{a=C(1,2);b=1;}c{d=1;}e=1;}C{!1;}D{}");
        due("A", x.begun(0), bits(0, 1, 3, 5));
        due("B", x.begun(1), bits(8, 11));
        due("C", x.begun(2), bits(12));
        due("D", x.begun(3), 0);
        due("none such", x.begun(4), 0);
        due("none such", x.begun(-1), 0);
    }

    /** Promise 10. */
    private static void summary() {
        CallSlicer x = Feeding.with("A{c=B(a,b);^c;}B{?a<1{w=b;}d=C(1,2);}C{?y<1{!x;}z=a;^3;}");
        due("b to w", x.summary(0, 1, 2), true);
        due("a to w, by way", x.summary(0, 0, 2), true);
        due("w to w", x.summary(0, 2, 2), true);
        due("x to w", x.summary(0, 3, 2), false);
        due("x to x", x.summary(0, 3, 3), true);
        due("x to the value", x.summary(0, 3, 0), true);
        due("y to the value", x.summary(0, 4, 0), true);
        due("y to how", x.summary(0, 4, 1), true);
        due("x to how: a throw that no try catches", x.summary(0, 3, 1), true);
        due("a to how", x.summary(0, 0, 1), false);
        due("y to z, by way", x.summary(0, 4, 5), true);
        due("z to z, as it throws", x.summary(0, 5, 5), true);
        due("b to z", x.summary(0, 1, 5), false);
        int call = 4;
        due("a call", x.of(call, 0), 1);
        due("a to z", x.summary(call, 0, 5), true);
        due("no call", x.summary(1, 0, 0), false);
        due("no statement", x.summary(-1, 0, 0), false);
        due("no statement", x.summary(40, 0, 0), false);
        due("no in", x.summary(0, 6, 0), false);
        due("no in", x.summary(0, -1, 0), false);
        due("no out", x.summary(0, 0, 6), false);
        due("no out", x.summary(0, 0, -1), false);
        CallSlicer y = Feeding.with("A{?a<1{^y;}c=A(b,w);^x;}");
        due("a, by way", y.summary(2, 0, 0), true);
        due("b, as a of the next", y.summary(2, 1, 0), true);
        due("w, as b of the next, as a of the one behind it", y.summary(2, 2, 0), true);
        due("x", y.summary(2, 3, 0), true);
        due("y", y.summary(2, 4, 0), true);
        due("z", y.summary(2, 5, 0), false);
        due("z to z", y.summary(2, 5, 5), true);
        due("it throws not", y.summary(2, 0, 1), false);
        CallSlicer z = Feeding.with("A{?a<1{^b;}c=A(a,b);^c;}");
        due("b to the value", z.summary(2, 1, 0), true);
        Feeding.program(z, "A{?a<1{^0;}c=A(0,b);^c;}");
        due("not so in the next program", z.summary(2, 1, 0), false);
    }

    /** Promises 11, 12 and 13. */
    private static void backAndForth() {
        CallSlicer x = Feeding.with("A{c=1;d=2;e=B(c,1);f=B(d,2);^e;}B{^a;}");
        due("calls match", x.back(4), bits(0, 2, 4, 5));
        due("up to both", x.back(5), bits(0, 1, 2, 3, 5));
        due("the other call", x.back(3), bits(1, 2, 3, 5));
        due("forth of the first", x.forth(0), bits(0, 2, 4, 5));
        due("forth of the second", x.forth(1), bits(1, 3, 5));
        due("forth of what is called", x.forth(5), bits(2, 3, 4, 5));
        due("between", x.between(0, 4), bits(0, 2, 4, 5));
        due("nothing between", x.between(1, 4), bits(5));
        due("none such", x.back(6), -1);
        due("none such", x.back(-1), -1);
        due("none such", x.forth(6), -1);
        due("none such", x.forth(-1), -1);
        due("none such", x.between(0, 6), -1);
        due("none such", x.between(-1, 0), -1);
        CallSlicer y = Feeding.with("A{w=a;c=B(1,2);d=x;^d;}B{?w<1{!1;}x=y;}");
        due("by way and by what a call throws", y.back(2), bits(0, 1, 2, 4, 5, 6));
        due("all lie on the way", y.forth(0), bits(0, 1, 2, 3, 4, 5, 6));
        CallSlicer z = Feeding.with("A{^1;c=2;}B{d=3;}");
        due("alone", z.back(2), bits(2));
        due("alone", z.forth(2), bits(2));
        due("apart", z.between(2, 0), 0);
    }

    /** Promise 14. */
    private static void backOf() {
        CallSlicer x = Feeding.with("A{c=B(1,2);^c;}B{w=a;?b<1{!w;}^3;y=4;}");
        due("value", x.backOf(1, 0), bits(0, 2, 3, 4, 5));
        due("how", x.backOf(1, 1), bits(0, 2, 3, 4, 5));
        due("w", x.backOf(1, 2), bits(0, 2));
        due("x", x.backOf(1, 3), bits(0));
        due("A's x: nothing but the call's", x.backOf(0, 3), bits(0));
        due("y behind a return", x.backOf(1, 4), bits(0, 2, 3, 4, 5, 6));
        CallSlicer z = Feeding.with("A{c=B(1,2);}B{w=3;}C{d=A(1,2);}");
        due("out of a call hangs on it, it on its begin, that on calls", z.backOf(0, 2), bits(0, 1, 2));
        due("none such", x.backOf(2, 0), -1);
        due("none such", x.backOf(-1, 0), -1);
        due("none such", x.backOf(0, 6), -1);
        due("none such", x.backOf(0, -1), -1);
        CallSlicer y = Feeding.with("A{?a<b{^1;}}");
        due("it may not throw: how hangs on nothing", y.backOf(0, 1), 0);
        due("value", y.backOf(0, 0), bits(0, 1));
    }

    /** Promise 15. */
    private static void kept() {
        CallSlicer x = Feeding.with("A{c=1;d=2;e=B(c,1);f=B(d,2);^e;}B{^a;}");
        due("only what it needs", x.kept(4), bits(0, 2, 4, 5));
        due("all", x.kept(5), bits(0, 1, 2, 3, 5));
        CallSlicer y = Feeding.with("A{c=5;d=B(c,1);?d<1{w=2;}e=B(a,1);f=w;}B{x=a;^b;}");
        due("what is given to a is not used", y.kept(5), bits(1, 2, 3, 4, 5, 7));
        CallSlicer z = Feeding.with("A{c=5;d=B(1,c);e=6;f=B(2,e);^w;}B{w=w+1;x=b;^x;}");
        due("both calls, not what they are given", z.kept(4), bits(1, 3, 4, 5));
        CallSlicer m = Feeding.with("A{c=5;d=B(c,1);e=6;f=B(e,2);?f<d{^w;}}B{x=a;w=w+b;^x;}");
        due("what is given, as its in is used", m.kept(5), bits(0, 1, 2, 3, 4, 5, 6, 7, 8));
        CallSlicer u = Feeding.with("A{e=6;d=B(e,0);c=B(1,0);^c;}B{w=w+a;^w;}");
        due("the first, too, through w", u.kept(3), bits(0, 1, 2, 3, 4, 5));
        CallSlicer k = Feeding.with("A{e=6;d=B(e,1);x=w;c=B(2,3);?c<x{^c;}}B{w=b;^a;}");
        due("back: a of the first call is not used", k.back(5), bits(1, 2, 3, 4, 5, 6, 7));
        due("kept: it is given a as well", k.kept(5), bits(0, 1, 2, 3, 4, 5, 6, 7));
        CallSlicer s = Feeding.with("A{f=6;e=C(f,1);d=B(e,1);x=w;c=B(2,3);b=C(7,8);?c<x{?b<y{^c;}}}"
            + "B{w=b;^a;}C{y=a;^b;}");
        due("back", s.back(8), bits(2, 3, 4, 5, 6, 7, 8, 9, 10, 11, 12));
        due("and so on: a call that is kept for a call", s.kept(8), bits(0, 1, 2, 3, 4, 5, 6, 7, 8, 9, 10, 11, 12));
        due("none such", x.kept(6), -1);
        due("none such", x.kept(-1), -1);
    }

    /** Promise 16. */
    private static void run() {
        CallSlicer x = Feeding.with("A{c=a+b;d=a-b;e=a*b;f=a<b;w=c;x=d;y=e;z=f;}");
        due("run", x.run(Integer.MAX_VALUE, 2), 0);
        due("+ wraps", x.ended(3), Integer.MAX_VALUE + 2);
        due("-", x.ended(4), Integer.MAX_VALUE - 2);
        due("* wraps", x.ended(5), -2);
        due("<", x.ended(6), 0);
        due("0 at the end", x.ended(1), 0);
        x.run(-5, 2);
        due("< of below 0", x.ended(6), 1);
        CallSlicer v = Feeding.with("A{c=4;d=B(1,2);?c<5{^d;}}B{w=w+c;c=7;a=a+b;^a;}");
        v.run(0, 0);
        due("variables are its own", v.ended(1), 3);
        due("others are 0", v.ended(3), 0);
        due("fields are 0 again", v.run(0, 0) + v.ended(3), 0);
        CallSlicer t = Feeding.with("A{%{%{a=B(a,0);x=1;}b{w=b;!8;}}c{y=c;}z=a;^y;}B{?a<1{!7;}^9;}");
        due("thrown, caught, thrown, caught", t.run(0, 0), 0);
        due("by the inner catch", t.ended(3), 7);
        due("the rest is passed over", t.ended(4), 0);
        due("by the outer one", t.ended(5), 8);
        due("the variable is as it was", t.ended(6), 0);
        due("value", t.ended(1), 8);
        t.run(1, 0);
        due("returned", t.ended(6), 9);
        due("no catch", t.ended(3), 0);
        due("the rest is done", t.ended(4), 1);
        CallSlicer u = Feeding.with("A{a=B(a,b);^1;}B{a=C(a,b);^2;}C{!b;}");
        due("thrown through two", u.run(1, 66), 1);
        due("its value", u.ended(1), 66);
        due("done", u.ended(2), 3);
        CallSlicer f = Feeding.with("A{?a<2{^1;}b=a-1;b=A(b,0);b=b*a;^b;}");
        f.run(10, 0);
        due("ten times nine ..", f.ended(1), 3628800);
        CallSlicer g = Feeding.with("A{%{!1;}e{}w=5;%{}e{w=6;}}");
        g.run(0, 0);
        due("an empty catch", g.ended(3), 5);
        CallSlicer h = Feeding.with("A{%{c=B(1,2);}a{^a;}}B{%{%{!5;}f{!f;}}a{!a;}}");
        due("a as the catch's variable", h.run(9, 9), 0);
        due("what came to it", h.ended(1), 5);
    }

    /** Promise 16: where a run is cut. */
    private static void runEnds() {
        CallSlicer x = Feeding.with("A{@b<a{b=b+1;}}");
        due("2999 done", x.run(1499, 0), 0);
        due("2999 done", x.ended(2), 2999);
        due("3001 would be", x.run(1500, 0), 2);
        due("3000 done", x.ended(2), 3000);
        CallSlicer y = Feeding.with("A{@b<a{b=b+1;}^b;}");
        due("just 3000", y.run(1499, 0), 0);
        due("3000 done", y.ended(2), 3000);
        due("its value", y.ended(1), 1499);
        CallSlicer z = Feeding.with("A{w=w+1;?0<a{a=a-1;c=A(a,b);}^w;}");
        due("30 calls", z.run(30, 0), 0);
        due("its value", z.ended(1), 31);
        due("done", z.ended(2), 3 * 31 + 60);
        due("31 calls", z.run(31, 0), 2);
        due("no value", z.ended(1), 0);
        due("fields then", z.ended(3), 31);
        due("the call is done", z.ended(2), 4 * 31);
        due("it saw nothing", z.saw(3, -1), 0);
        CallSlicer s = Feeding.with("A{@0<1{a=B(a,b);}}B{}");
        due("calls one behind another", s.run(0, 0), 2);
        due("3000 done", s.ended(2), 3000);
        due("a call that ended saw", s.saw(1, -1), 250);
        CallSlicer t = Feeding.with("A{%{?0<1{a=A(a,b);}}e{w=1;}?a<1{!2;}}");
        due("a cut is not caught", t.run(0, 0), 2);
        due("no catch", t.ended(3), 0);
        due("31 calls done, each behind a test", t.ended(2), 62);
    }

    /** Promise 17. */
    private static void runKept() {
        CallSlicer x = Feeding.with("A{c=1;w=9;?a<b{d=2;x=8;}:{d=3;}@y<3{y=y+1;}%{!d;}e{z=e;}^d;}");
        due("run of what is kept", x.runKept(10, 1, 2), 0);
        due("its value", x.ended(1), 2);
        due("left out", x.ended(3), 0);
        due("left out in a block", x.ended(4), 0);
        due("left out with its block", x.ended(5), 0);
        due("a throw is kept: a return hangs on none of it", x.ended(6), 0);
        due("done", x.ended(2), 3);
        due("it saw", x.saw(10, 0), 2);
        due("others did not", x.saw(1, -1), 0);
        x.runKept(9, 5, 2);
        due("the catch goes on", x.ended(6), 3);
        due("no return", x.ended(1), 0);
        due("done", x.ended(2), 4);
        due("none such", x.runKept(11, 0, 0), -1);
        due("none such", x.runKept(-1, 0, 0), -1);
        due("the run stays", x.ended(6), 3);
        CallSlicer y = Feeding.with("A{c=B(a,b);@0<1{w=1;}^c;}B{x=1;y=2;^a;}");
        due("cut", y.run(4, 0), 2);
        due("a loop that is left out cuts nothing", y.runKept(3, 4, 0), 0);
        due("value", y.ended(1), 4);
        due("done", y.ended(2), 3);
        CallSlicer z = Feeding.with("A{!a;}");
        due("thrown", z.runKept(0, 4, 0), 1);
        CallSlicer t = Feeding.with("A{?w<1{a=A(a,b);}^a;}");
        due("cut", t.runKept(1, 0, 0), 2);
    }

    /** Promise 18. */
    private static void ended() {
        CallSlicer x = Feeding.with("A{w=1;x=2;y=3;z=4;?a<1{!5;}^6;}");
        for (int what = 0; what < 7; what++) {
            due("nothing was run: " + what, x.ended(what), -1);
        }
        x.run(0, 0);
        int[] want = {1, 5, 6, 1, 2, 3, 4};
        for (int what = 0; what < 7; what++) {
            due("thrown: " + what, x.ended(what), want[what]);
        }
        x.run(1, 0);
        due("returned", x.ended(0), 0);
        due("value", x.ended(1), 6);
        due("another", x.ended(7), -1);
        due("another", x.ended(-1), -1);
        due("another", x.ended(Integer.MIN_VALUE), -1);
    }

    /** Promise 19. */
    private static void saw() {
        CallSlicer x = Feeding.with("A{@b<3{b=B(b,1);?1<b{w=b*2;}}%{c=B(9,9);}d{}!d;}B{?5<a{!a;}a=a+b;^a;}");
        due("nothing yet", x.saw(0, -1), 0);
        due("nothing yet", x.saw(0, 0), 0);
        due("run", x.run(0, 0), 1);
        int[] loop = {1, 1, 1, 0};
        for (int k = 0; k < 4; k++) {
            due("loop " + k, x.saw(0, k), loop[k]);
        }
        due("loop", x.saw(0, -1), 4);
        due("call", x.saw(1, -1), 3);
        due("call 0", x.saw(1, 0), 1);
        due("call 2", x.saw(1, 2), 3);
        due("call 3", x.saw(1, 3), 0);
        due("test 0", x.saw(2, 0), 0);
        due("test 1", x.saw(2, 1), 1);
        due("set", x.saw(3, 1), 6);
        due("a call that threw", x.saw(4, 0), 9);
        due("a throw", x.saw(5, 0), 9);
        due("a throw that was caught", x.saw(7, 0), 9);
        due("a return", x.saw(9, 2), 3);
        due("none such", x.saw(10, -1), 0);
        due("none such", x.saw(-1, -1), 0);
        due("none such", x.saw(1, -2), 0);
        due("none such", x.saw(1, Integer.MIN_VALUE), 0);
        due("none such", x.saw(1, Integer.MAX_VALUE), 0);
        CallSlicer y = Feeding.with("A{@a<600{a=a+1;}c=7;}");
        y.run(0, 0);
        due("of 500 alone", y.saw(1, -1), 250);
        due("the 250th", y.saw(1, 249), 250);
        due("no more", y.saw(1, 250), 0);
        due("behind them", y.saw(2, -1), 0);
        y.run(600, 0);
        due("of the latest run", y.saw(2, 0), 7);
        due("of the latest run", y.saw(1, -1), 0);
    }
}
