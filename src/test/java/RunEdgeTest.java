/** Terms, 2: the edges of a run, sentence by sentence. */
public final class RunEdgeTest {
    private static final Due DUE = new Due("run");
    private static final int MAX = Integer.MAX_VALUE;
    private static final int MIN = Integer.MIN_VALUE;
    /** Of each kind one that the run can do as its last one; B and what it does not do stand behind it. */
    private static final String[] KINDS = {"w=5;", "c=B(1,2);", "?0<1{}", "@1<0{}", "!5;", "^5;"};

    private RunEdgeTest() {
    }

    public static void main(String[] args) {
        givenNumbers();
        callGives();
        fieldsBegin();
        wrapping();
        comparing();
        endOfBlock();
        returning();
        throwing();
        throwingByCalls();
        thrownAway();
        threeThousand();
        threeThousandOfAll();
        thirtyCalls();
        callsComeBack();
        callThatWould();
        seeing();
        seeingCalls();
        DUE.finish();
    }

    private static long[] after(CallSlicer x, int a, int b) {
        long how = x.run(a, b);
        long[] answers = new long[7];
        for (int what = 0; what < 7; what++) {
            answers[what] = x.ended(what);
        }
        DUE.is("run and ended(0) tell the same", answers[0], how);
        return answers;
    }

    private static void dueRun(String text, int a, int b, long... want) {
        long[] got = after(Feeding.with(text), a, b);
        for (int what = 0; what < want.length; what++) {
            DUE.is("run(" + a + ", " + b + ") of '" + text + "': ended(" + what + ")", got[what], want[what]);
        }
    }

    private static void givenNumbers() {
        DUE.sentence("A is called with two numbers");
        int[] numbers = {0, 1, -1, 999, 1000, MAX, MIN};
        for (int a : numbers) {
            for (int b : numbers) {
                dueRun("A{w=a;x=b;y=c;z=f;^a;}B{^9;}", a, b, 0, a, 5, a, b, 0, 0);
            }
        }
    }

    private static void callGives() {
        DUE.sentence("A CALL gives numbers to the VARIABLES a, b of a PROCEDURE, its others are 0");
        dueRun("A{c=1;d=2;e=3;f=4;c=B(c,d);}B{w=a*10;w=w+b;x=c+d;y=e+f;}", 8, 9, 0, 0, 9, 12, 0, 0);
        dueRun("A{c=B(b,a);}B{c=1;?a<5{d=B(9,c);}z=z+c;w=w+b;}", 7, 4, 0, 0, 10, 8, 0, 0, 2);
        dueRun("A{@w<3{w=w+1;c=B(w,x);}}B{d=d+1;x=x+d;}", 0, 0, 0, 0, 16, 3, 3);
    }

    private static void fieldsBegin() {
        DUE.sentence("FIELDS are 0 as a RUN begins");
        CallSlicer x = Feeding.with("A{w=w+1;x=x+2;y=y+3;z=z+4;}");
        for (int time = 0; time < 3; time++) {
            long[] got = after(x, 0, 0);
            for (int field = 0; field < 4; field++) {
                DUE.is("field " + field + ", time " + time, got[3 + field], field + 1);
            }
            x.runKept(2, 0, 0);
            DUE.is("a field that is not kept", x.ended(3), 0);
            DUE.is("one that is", x.ended(5), 3);
        }
        CallSlicer cut = Feeding.with("A{@0<1{w=w+1;}}");
        DUE.is("cut", after(cut, 0, 0)[3], 1500);
        DUE.is("and again", after(cut, 0, 0)[3], 1500);
    }

    private static void wrapping() {
        DUE.sentence("Numbers are ints that wrap");
        dueRun("A{c=a+b;^c;}", MAX, 0, 0, MAX);
        dueRun("A{c=a+b;^c;}", MAX, 1, 0, MIN);
        dueRun("A{c=a+b;^c;}", MIN, -1, 0, MAX);
        dueRun("A{c=a+b;^c;}", MIN, MIN, 0, 0);
        dueRun("A{c=a-b;^c;}", MIN, 0, 0, MIN);
        dueRun("A{c=a-b;^c;}", MIN, 1, 0, MAX);
        dueRun("A{c=a-b;^c;}", MAX, -1, 0, MIN);
        dueRun("A{c=0-a;^c;}", MIN, 0, 0, MIN);
        dueRun("A{c=a*b;^c;}", 46340, 46340, 0, 2147395600);
        dueRun("A{c=a*b;^c;}", 46341, 46341, 0, -2147479015);
        dueRun("A{c=a*b;^c;}", MIN, -1, 0, MIN);
        dueRun("A{c=a*b;^c;}", 65536, 65536, 0, 0);
        dueRun("A{c=a*b;^c;}", MAX, MAX, 0, 1);
        dueRun("A{w=a+b;c=B(w,1);^c;}B{!a;}", MAX, MAX, 1, -2);
    }

    private static void comparing() {
        DUE.sentence("(1 if it is so, 0 if not)");
        int[][] pairs = {{0, 0, 0}, {0, 1, 1}, {1, 0, 0}, {-1, 0, 1}, {0, -1, 0}, {MIN, MAX, 1}, {MAX, MIN, 0},
            {MAX, MAX, 0}, {MIN, MIN, 0}, {MAX - 1, MAX, 1}, {MIN, MIN + 1, 1}};
        for (int[] pair : pairs) {
            dueRun("A{c=a<b;^c;}", pair[0], pair[1], 0, pair[2]);
            dueRun("A{?a<b{^1;}^0;}", pair[0], pair[1], 0, pair[2]);
            dueRun("A{?a<b{}:{^0;}^1;}", pair[0], pair[1], 0, pair[2]);
            dueRun("A{@a<b{^1;}^0;}", pair[0], pair[1], 0, pair[2]);
        }
    }

    private static void endOfBlock() {
        DUE.sentence("one that comes to the end of its BLOCK RETURNS 0");
        dueRun("A{}", 5, 6, 0, 0, 0);
        dueRun("A{w=3;}", 5, 6, 0, 0, 1, 3);
        dueRun("A{^3;}", 5, 6, 0, 3, 1, 0);
        dueRun("A{c=7;c=B(1,2);w=c;}B{}", 5, 6, 0, 0, 3, 0);
        dueRun("A{c=7;c=B(1,2);w=c;}B{^8;}", 5, 6, 0, 0, 4, 8);
        dueRun("A{?a<b{^9;}}", 6, 5, 0, 0, 1);
        dueRun("A{?a<b{^9;}}", 5, 6, 0, 9, 2);
        dueRun("A{%{!4;}c{}}", 5, 6, 0, 0, 1);
    }

    private static void returning() {
        DUE.sentence("RETURN, THROW: OPERAND is the VALUE by which it ends");
        dueRun("A{^a;w=1;}", -7, 0, 0, -7, 1, 0);
        dueRun("A{!a;w=1;}", -7, 0, 1, -7, 1, 0);
        dueRun("A{@0<1{?0<1{%{^b;}c{w=1;}}}}", 0, MIN, 0, MIN, 3, 0);
        dueRun("A{@0<1{?0<1{%{w=2;}c{w=1;}!w;}}}", 0, 0, 1, 2, 4, 2);
        dueRun("A{w=4;c=B(1,2);^c;}B{^w;}", 0, 0, 0, 4, 4);
    }

    private static void throwing() {
        DUE.sentence("What is THROWN within the first BLOCK of a TRY comes to the CATCH's VARIABLE; not within one in it that catches it");
        dueRun("A{%{!a;w=1;}c{x=c;}y=c;}", 7, 0, 0, 0, 3, 0, 7, 7);
        dueRun("A{%{w=1;}c{x=1;}!a;}", 7, 0, 1, 7, 2, 1, 0);
        dueRun("A{%{w=1;!5;}c{x=c;!a;}}", 7, 0, 1, 7, 4, 1, 5);
        dueRun("A{%{%{!a;}c{w=c;}}d{x=d;}}", 7, 0, 0, 0, 2, 7, 0);
        dueRun("A{%{%{!a;}c{w=c;!8;}}d{x=d;}}", 7, 0, 0, 0, 4, 7, 8);
        dueRun("A{%{%{}c{w=c;}!a;}d{x=d;}}", 7, 0, 0, 0, 2, 0, 7);
        dueRun("A{%{!1;}c{%{!a;}d{x=d;}}}", 7, 0, 0, 0, 3, 0, 7);
        dueRun("A{%{!a;}a{}^a;}", 7, 0, 0, 7, 2);
        dueRun("A{%{@0<1{?0<1{!a;}}}f{}^f;}", 7, 0, 0, 7, 4);
        dueRun("A{%{^a;}c{w=1;}}", 7, 0, 0, 7, 1, 0);
    }

    private static void throwingByCalls() {
        DUE.sentence("(by a CALL, too)");
        dueRun("A{c=3;%{c=B(1,2);w=1;}d{x=d;}y=c;}B{!6;}", 0, 0, 0, 0, 5, 0, 6, 3);
        dueRun("A{c=3;%{c=B(1,2);w=1;}c{x=c;}y=c;}B{!6;}", 0, 0, 0, 0, 5, 0, 6, 6);
        dueRun("A{c=3;%{c=B(1,2);w=1;}d{x=d;}y=c;}B{^6;}", 0, 0, 0, 0, 5, 1, 0, 6);
        for (char variable : "abcdef".toCharArray()) {
            dueRun("A{%{c=B(1,2);w=1;}" + variable + "{^" + variable + ";}}B{!6;}", 0, 0, 0, 6, 3, 0);
            dueRun("A{%{c=B(1,2);w=1;}" + variable + "{^" + variable + ";}}B{%{!5;}" + variable + "{!6;}}", 0, 0, 0, 6, 4, 0);
        }
        dueRun("A{%{}d{x=d;}c=B(1,2);}B{!6;}", 0, 0, 1, 6, 2, 0, 0);
        dueRun("A{%{!1;}d{c=B(1,2);}}B{!6;}", 0, 0, 1, 6, 3);
        dueRun("A{%{c=B(1,2);}d{x=d;}}B{%{!6;}a{w=a;}}", 0, 0, 0, 0, 3, 6, 0);
        dueRun("A{%{c=B(1,2);}d{x=d;}}B{%{!6;}a{w=a;!7;}}", 0, 0, 0, 0, 5, 6, 7);
    }

    private static void thrownAway() {
        DUE.sentence("without a TRY it is THROWN by that PROCEDURE");
        dueRun("A{c=B(1,2);w=1;}B{c=C(3,4);x=1;}C{c=D(5,6);y=1;}D{c=E(7,8);z=1;}E{!b;}", 0, 0, 1, 8, 5, 0, 0, 0, 0);
        dueRun("A{c=B(1,2);w=1;}B{c=C(3,4);x=1;}C{%{c=D(5,6);y=1;}d{x=d;}z=2;}D{c=E(7,8);z=1;}E{!b;}",
            0, 0, 0, 0, 9, 1, 1, 0, 2);
        dueRun("A{?0<w{!w;}w=9;%{c=A(1,2);}d{}}", 0, 0, 0, 0, 5, 9);
    }

    /** Does 2999 statements before what is asked for: 1500 times the loop, 1499 times what is in it. */
    private static String behindMost(String last) {
        return "A{@b<a{b=b+1;}" + last + "}B{}";
    }

    private static void threeThousand() {
        DUE.sentence("A RUN is CUT, if it would do a 3,001st STATEMENT");
        for (String kind : KINDS) {
            int how = kind.equals("!5;") ? 1 : 0;
            int value = kind.endsWith("5;") && !kind.startsWith("w") ? 5 : 0;
            int field = kind.startsWith("w") ? 5 : 0;
            dueRun(behindMost(kind), 1499, 0, how, value, 3000, field);
            dueRun(behindMost("d=1;" + kind), 1499, 0, 2, 0, 3000, 0);
            dueRun(behindMost("d=1;%{" + kind + "}e{}"), 1499, 0, 2, 0, 3000, 0);
        }
        dueRun(behindMost(""), 1499, 0, 0, 0, 2999);
        dueRun(behindMost("d=1;%{}e{}"), 1499, 0, 0, 0, 3000);
        dueRun(behindMost("?0<1{w=1;}"), 1499, 0, 2, 0, 3000, 0);
        dueRun(behindMost("@0<1{w=1;}"), 1499, 0, 2, 0, 3000, 0);
        dueRun(behindMost("%{!1;}e{w=1;}"), 1499, 0, 2, 0, 3000, 0);
        dueRun(behindMost("%{!1;}e{}"), 1499, 0, 0, 0, 3000, 0);
        dueRun("A{@0<1{}}", 0, 0, 2, 0, 3000);
    }

    private static void threeThousandOfAll() {
        DUE.sentence("(a 3,001st STATEMENT, of all that is done, also in what is called)");
        String text = "A{c=B(a,0);w=1;d=B(b,0);^7;}B{@b<a{b=b+1;}}";
        dueRun(text, 748, 748, 0, 7, 4 + 2 * 1497, 1);
        dueRun(text, 748, 749, 0, 7, 3000, 1);
        dueRun(text, 749, 749, 2, 0, 3000, 1);
        dueRun(text, 1497, 9, 2, 0, 3000, 1);
        dueRun(text, 1499, 0, 2, 0, 3000, 0);
        CallSlicer x = Feeding.with(text);
        DUE.is("cut", x.run(1499, 0), 2);
        DUE.is("the next run begins from 0", x.run(0, 0), 0);
        DUE.is("done", x.ended(2), 6);
    }

    private static void thirtyCalls() {
        DUE.sentence("or open a 31st CALL in one another (that of A is none)");
        String alone = "A{w=w+1;?0<a{a=a-1;c=A(a,b);}x=x+1;}";
        dueRun(alone, 29, 0, 0, 0, 3 * 30 + 2 * 29, 30, 30);
        dueRun(alone, 30, 0, 0, 0, 3 * 31 + 2 * 30, 31, 31);
        dueRun(alone, 31, 0, 2, 0, 4 * 31, 31, 0);
        dueRun(alone, MAX, 0, 2, 0, 4 * 31, 31, 0);
        String turns = "A{c=B(a,b);}B{w=w+1;?0<a{a=a-1;c=C(a,b);}}C{w=w+1;?0<a{a=a-1;c=B(a,b);}}";
        dueRun(turns, 29, 0, 0, 0, 1 + 2 * 30 + 2 * 29, 30);
        dueRun(turns, 30, 0, 2, 0, 1 + 4 * 30, 30);
        String thrown = "A{?0<a{a=a-1;c=A(a,b);}!b;}";
        dueRun(thrown, 30, 5, 1, 5, 3 * 30 + 2);
        dueRun(thrown, 31, 5, 2, 0, 3 * 31);
        String caught = "A{?0<a{a=a-1;%{c=A(a,b);}d{w=w+1;}}!b;}";
        dueRun(caught, 30, 5, 1, 5, 30 * 5 + 2, 30);
        dueRun(caught, 31, 5, 2, 0, 3 * 31, 0);
    }

    private static void callsComeBack() {
        DUE.sentence("(in one another: not those that have ended)");
        dueRun("A{@w<100{w=w+1;c=B(1,2);}}B{c=C(1,2);}C{}", 0, 0, 0, 0, 401, 100);
        dueRun("A{@w<100{w=w+1;%{c=B(1,2);}d{}}}B{c=C(1,2);}C{!1;}", 0, 0, 0, 0, 501, 100);
        String twice = "A{c=B(a,0);d=B(b,0);}B{w=w+1;?0<a{a=a-1;c=B(a,0);}}";
        dueRun(twice, 29, 29, 0, 0, 2 + 2 * (60 + 58), 60);
        dueRun(twice, 29, 30, 2, 0, 2 + 60 + 58 + 120, 60);
        dueRun(twice, 30, 29, 2, 0, 1 + 120, 30);
    }

    private static void callThatWould() {
        DUE.sentence("(the CALL that would is done)");
        CallSlicer x = Feeding.with("A{?0<a{a=a-1;c=A(a,b);}w=w+1;^1;}");
        x.run(31, 0);
        DUE.is("31 tests, sets, calls", x.ended(2), 93);
        DUE.is("none of the calls saw anything", x.saw(2, -1), 0);
        DUE.is("tests did", x.saw(0, -1), 31);
        x.run(30, 0);
        DUE.is("30 of each, a test, and 31 sets and returns", x.ended(2), 153);
        DUE.is("each call saw", x.saw(2, -1), 30);
        String ahead = "A{@b<a{b=b+1;}";
        String behind = "B{?0<a{a=a-1;c=B(a,b);}:{d=C(0,0);}}C{}";
        dueRun(ahead + "e=B(28,0);}" + behind, 1454, 0, 0, 0, 2909 + 1 + 84 + 2);
        dueRun(ahead + "e=B(29,0);}" + behind, 1454, 0, 2, 0, 2999);
        dueRun(ahead + "f=1;e=B(29,0);}" + behind, 1454, 0, 2, 0, 3000);
        dueRun(ahead + "f=1;f=2;e=B(29,0);}" + behind, 1454, 0, 2, 0, 3000);
    }

    private static void seeing() {
        DUE.sentence("A STATEMENT SEES, each time that it is done: SET: the number; TEST, LOOP: 1 if it is so, 0 if not; THROW, RETURN: OPERAND");
        CallSlicer x = Feeding.with("A{@c<2{c=c+1;?c<2{d=c-9;}:{%{!c;}e{}}}f=a<b;^f;}");
        x.run(1, 2);
        int[][] want = {{1, 1, 0}, {1, 2}, {1, 0}, {-8}, {2}, {1}, {1}};
        for (int s = 0; s < want.length; s++) {
            DUE.is("times of " + s, x.saw(s, -1), want[s].length);
            for (int k = 0; k < want[s].length; k++) {
                DUE.is("sight " + k + " of " + s, x.saw(s, k), want[s][k]);
            }
            DUE.is("no more of " + s, x.saw(s, want[s].length), 0);
        }
        x.run(MAX, MIN);
        DUE.is("not so", x.saw(5, 0), 0);
        CallSlicer wrap = Feeding.with("A{c=a+1;!c;}");
        wrap.run(MAX, 0);
        DUE.is("wrapped", wrap.saw(0, 0), MIN);
        DUE.is("thrown", wrap.saw(1, 0), MIN);
    }

    private static void seeingCalls() {
        DUE.sentence("CALL: the VALUE, as it ends (if it does)");
        CallSlicer x = Feeding.with("A{%{c=B(a,b);d=B(b,a);}e{}}B{?a<b{!a;}^b;}");
        x.run(2, 1);
        DUE.is("returned", x.saw(0, 0), 1);
        DUE.is("thrown", x.saw(1, 0), 1);
        DUE.is("once", x.saw(0, -1), 1);
        x.run(1, 2);
        DUE.is("thrown, too", x.saw(0, 0), 1);
        DUE.is("not done", x.saw(1, -1), 0);
        CallSlicer y = Feeding.with("A{c=B(1,2);}B{c=C(3,4);}C{^9;}");
        y.run(0, 0);
        DUE.is("the inner", y.saw(1, 0), 9);
        DUE.is("the outer, by the end of a block", y.saw(0, 0), 0);
        DUE.is("once", y.saw(0, -1), 1);
        CallSlicer z = Feeding.with("A{c=B(1,2);}B{@0<1{}}");
        z.run(0, 0);
        DUE.is("it ends not", z.saw(0, -1), 0);
        CallSlicer u = Feeding.with("A{c=B(1,2);}B{c=C(1,2);}C{!3;}");
        u.run(0, 0);
        DUE.is("thrown through it", u.saw(1, 0), 3);
        DUE.is("and through this one", u.saw(0, 0), 3);
    }
}
