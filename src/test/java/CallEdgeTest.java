import java.util.ArrayList;
import java.util.List;

/** The promises one by one: what is refused, what is not there, another what, full, empty, the first, the last. */
public final class CallEdgeTest {
    private static final Due DUE = new Due("calls");
    private static final int MAX = Integer.MAX_VALUE;
    private static final int MIN = Integer.MIN_VALUE;
    private static final int BLANK = 0x20202020;
    /** Far outside of anything: no statement, procedure, port, kind of answer is told by one of these. */
    private static final int[] OUTSIDE = {-1, -2, -3, -64, MIN, MIN + 1, 40, 41, 45, 64, 65, 500, 1 << 20, MAX - 1, MAX};
    private static final String[] FAULTY = {"", "A{a=1234;}", "B{}", "A{" + "^1;".repeat(41) + "}", "A{a=B(1,2);}",
        "A{a=A(1,2);}", "A{" + "%{".repeat(7)};

    private CallEdgeTest() {
    }

    public static void main(String[] args) {
        newObject();
        lastCall();
        feedAll();
        feedBytes();
        feedNone();
        endAlone();
        endRefused();
        programTakesTape();
        programReplaces();
        programForgets();
        programStays();
        faultStands();
        countWhats();
        countTape();
        ofWhats();
        ofCatch();
        hangsNone();
        begunNone();
        summaryNone();
        slicesNone();
        backOfNone();
        runNone();
        runKeptNone();
        endedNone();
        endedCut();
        sawNone();
        sawFirst();
        DUE.finish();
    }

    /** All that can be asked of a small program, but for its tape and its fault. */
    private static List<Long> asked(CallSlicer x, int statements) {
        List<Long> answers = new ArrayList<>();
        for (int what = 0; what < 5; what++) {
            answers.add((long) x.count(what));
        }
        for (int s = 0; s <= statements; s++) {
            for (int what = 0; what < 7; what++) {
                answers.add((long) x.of(s, what));
            }
            answers.add(x.back(s));
            answers.add(x.forth(s));
            answers.add(x.kept(s));
            for (int other = 0; other <= statements; other++) {
                answers.add((long) x.hangs(s, other));
            }
            for (int k = -1; k < 2; k++) {
                answers.add((long) x.saw(s, k));
            }
        }
        for (int p = 0; p < 2; p++) {
            answers.add(x.begun(p));
            for (int k = 0; k < 6; k++) {
                answers.add(x.backOf(p, k));
                answers.add(x.summary(1, p, k) ? 1L : 0L);
            }
        }
        for (int what = 0; what < 7; what++) {
            answers.add((long) x.ended(what));
        }
        return answers;
    }

    private static void newObject() {
        DUE.sentence("CallSlicer(): No PROGRAM");
        CallSlicer x = new CallSlicer();
        for (int s = -1; s < 3; s++) {
            DUE.is("of", x.of(s, 0), -1);
            DUE.is("hangs", x.hangs(s, 0), 0);
            DUE.is("begun", x.begun(s), 0);
            DUE.is("summary", x.summary(s, 0, 0), false);
            DUE.is("back", x.back(s), -1);
            DUE.is("forth", x.forth(s), -1);
            DUE.is("between", x.between(s, s), -1);
            DUE.is("backOf", x.backOf(s, 0), -1);
            DUE.is("kept", x.kept(s), -1);
            DUE.is("runKept", x.runKept(s, 0, 0), -1);
            DUE.is("saw", x.saw(s, s), 0);
        }
        for (int what = 0; what < 7; what++) {
            DUE.is("count(" + what + ")", x.count(what), what < 6 ? 0 : -1);
            DUE.is("ended(" + what + ")", x.ended(what), -1);
        }
        DUE.is("run", x.run(0, 0), -1);
        DUE.is("fault", x.fault(), 0);
        DUE.is("end(0)", x.end(0), true);
        DUE.is("end(1)", x.end(1), false);
        DUE.is("a program without statements is one", Feeding.program(x, "A{}"), 0);
        DUE.is("run", x.run(0, 0), 0);
        DUE.is("begun", x.begun(0), 0);
        DUE.is("backOf", x.backOf(0, 0), 0);
    }

    private static void lastCall() {
        DUE.sentence("An object is used for at most 512 calls after it has been made");
        CallSlicer x = new CallSlicer();
        int calls = 0;
        Feeding.feed(x, "A{c=B(a,b);w=w+c;^w;}B{^b;}");
        calls += 3;
        DUE.is("program", x.program(), 4);
        calls++;
        for (int i = 0; calls < 510; i++) {
            DUE.is("run " + i, x.run(i, i + 1), 0);
            DUE.is("its value", x.ended(1), i + 1);
            calls += 2;
        }
        DUE.is("the 511th call", x.back(2), Due.bits(0, 1, 2, 3));
        DUE.is("the 512th call", x.runKept(2, 3, 4), 0);
        CallSlicer y = new CallSlicer();
        for (int i = 0; i < 128; i++) {
            x = i % 64 == 0 ? new CallSlicer() : x;
            DUE.is("a program again", Feeding.program(x, "A{^" + i + ";}"), 1);
            x.run(0, 0);
            DUE.is("its value", x.ended(1), i);
            DUE.is("refused for ever", y.runKept(0, 0, 0), -1);
        }
    }

    private static void feedAll() {
        DUE.sentence("Twenty bytes come behind the TAPE: how many it has. NONE, and none come: more than 500");
        for (int kept = 0; kept <= 500; kept++) {
            CallSlicer x = new CallSlicer();
            for (int i = 1; i <= 25; i++) {
                x.feed(BLANK, BLANK, BLANK, BLANK, BLANK);
            }
            x.end(kept);
            DUE.is("feed behind " + kept, x.feed(0, 0, 0, 0, 0), kept <= 480 ? kept + 20 : -1);
            DUE.is("then it has", x.count(5), kept <= 480 ? kept + 20 : kept);
        }
    }

    private static void feedBytes() {
        DUE.sentence("of each number the highest first");
        String text = "A{c=a-b;w=c*c;^123;}";
        CallSlicer x = new CallSlicer();
        DUE.is("feed", x.feed('A' << 24 | '{' << 16 | 'c' << 8 | '=', 'a' << 24 | '-' << 16 | 'b' << 8 | ';',
            'w' << 24 | '=' << 16 | 'c' << 8 | '*', 'c' << 24 | ';' << 16 | '^' << 8 | '1',
            '2' << 24 | '3' << 16 | ';' << 8 | '}'), text.length());
        DUE.is("program", x.program(), 3);
        x.run(9, 4);
        DUE.is("value", x.ended(1), 123);
        DUE.is("field", x.ended(3), 25);
        for (int at = 0; at < 20; at++) {
            for (int high = 0; high < 256; high += 5) {
                CallSlicer y = new CallSlicer();
                int[] five = {BLANK, BLANK, BLANK, BLANK, BLANK};
                int shift = 24 - at % 4 * 8;
                five[at / 4] = five[at / 4] & ~(255 << shift) | high << shift;
                y.feed(five[0], five[1], five[2], five[3], five[4]);
                y.program();
                int kind = high >= 'B' && high <= 'Z' ? 3 : 1;
                int place = high == ' ' || high == '\n' ? 20 : at + (high == 'A' ? 1 : 0);
                DUE.is("byte " + high + " at " + at, y.fault() / 8, high == 'A' ? 20 : place);
                DUE.is("its kind", y.fault() % 8, kind);
            }
        }
    }

    private static void feedNone() {
        DUE.sentence("(none come: the TAPE is as it was)");
        String text = "A{^5;" + " ".repeat(480) + "w=1;}";
        for (int n = 481; n <= 500; n++) {
            CallSlicer x = new CallSlicer();
            Feeding.feed(x, (text + " ".repeat(20)).substring(0, n));
            DUE.is("no room behind " + n, x.feed(-1, -1, -1, -1, -1), -1);
            DUE.is("and again", x.feed(0x7d7d7d7d, 0, 0, 0, 0), -1);
            DUE.is("bytes", x.count(5), n);
            DUE.is("program", x.program(), n >= 490 ? 2 : -2);
            DUE.is("fault", x.fault(), n >= 490 ? 0 : 1 + 8 * n);
        }
    }

    private static void endAlone() {
        DUE.sentence("end: The TAPE has its first n bytes alone: true");
        String text = "A{^1;}B{^2;}C{^3;}";
        int[] ends = {0, 6, 12, 18};
        for (int n : ends) {
            CallSlicer x = new CallSlicer();
            Feeding.feed(x, text);
            DUE.is("end(18)", x.end(18), true);
            DUE.is("end(" + n + ")", x.end(n), true);
            DUE.is("bytes", x.count(5), n);
            DUE.is("statements", x.program(), n == 0 ? -2 : n / 6);
        }
        CallSlicer y = new CallSlicer();
        Feeding.feed(y, text);
        y.end(7);
        int tail = '{' << 24 | '!' << 16 | '9' << 8 | ';';
        DUE.is("behind the first 7", y.feed(tail, '}' << 24 | 0x202020, BLANK, BLANK, BLANK), 27);
        DUE.is("program", y.program(), 2);
        DUE.is("what was behind them is gone", y.of(1, 0), 4);
    }

    private static void endRefused() {
        DUE.sentence("end: false: it has not so many, n is below 0");
        for (int has = 0; has <= 500; has += 20) {
            CallSlicer x = new CallSlicer();
            for (int i = 0; i < has; i += 20) {
                x.feed(BLANK, BLANK, BLANK, BLANK, BLANK);
            }
            int[] refused = {-1, MIN, has + 1, has + 20, 501, 1000, MAX};
            for (int n : refused) {
                DUE.is("end(" + n + ") of " + has, x.end(n), false);
                DUE.is("it has them all", x.count(5), has);
            }
            DUE.is("end(" + has + ")", x.end(has), true);
            DUE.is("it has them all", x.count(5), has);
            DUE.is("end(0)", x.end(0), true);
            DUE.is("none", x.count(5), 0);
            DUE.is("end(1)", x.end(1), false);
        }
    }

    private static void programTakesTape() {
        DUE.sentence("program: The TAPE (empty then) is the PROGRAM: how many STATEMENTS");
        for (int n = 0; n <= 40; n++) {
            CallSlicer x = new CallSlicer();
            DUE.is("program of " + n, Feeding.program(x, "A{" + "w=w+1;".repeat(n) + "}"), n);
            DUE.is("count", x.count(0), n);
            DUE.is("the tape", x.count(5), 0);
            DUE.is("the next one begins anew", x.feed(BLANK, BLANK, BLANK, BLANK, BLANK), 20);
            x.run(0, 0);
            DUE.is("done", x.ended(2), n);
        }
        CallSlicer y = Feeding.with("A{^1;}");
        DUE.is("the empty tape is no program", y.program(), -2);
        DUE.is("its fault", y.fault(), 1);
        DUE.is("the one before it stays", y.count(0), 1);
    }

    /** One answer to each question that needs the program, each asked first of all on an object. */
    private static long askFirst(CallSlicer x, int question) {
        switch (question) {
            case 0: return x.hangs(2, 0);
            case 1: return x.begun(1);
            case 2: return x.summary(1, 0, 0) ? 1 : 0;
            case 3: return x.back(2);
            case 4: return x.forth(0);
            case 5: return x.between(0, 2);
            case 6: return x.backOf(1, 0);
            case 7: return x.kept(2);
            case 8: return x.runKept(2, 5, 6) + 10L * x.ended(2) + 100L * x.saw(2, 0);
            case 9: return x.run(5, 6) + 10L * x.ended(2) + 100L * x.ended(1);
            case 10: return x.summary(2, 1, 0) ? 1 : 0;
            default: return x.count(question - 11);
        }
    }

    private static void programReplaces() {
        DUE.sentence("(the PROGRAM is what the TAPE was, and nothing of what was one before)");
        String[] texts = {"A{w=a;c=B(w,b);^w;}B{x=1;^a;}", "A{w=a;c=B(w,b);d=c+w;^d;}B{?a<b{!a;}^b;}",
            "A{@a<b{a=a+1;^a;}}", "A{}", "A{a=1*2;b=a-2;c=b*a;d=3;%{!d;}e{^e;}}B{!1;}C{d=B(1,2);}",
            "A{?a<1{^b;}c=A(a,b);^c;}", "A{?a<1{^0;}c=A(0,b);^c;}"};
        long[] ofFirst = {0, 24, 1, 7, 23, 7, 19, 7, 530, 550, 0, 5, 2, 1, 0, 3};
        for (int question = 0; question < ofFirst.length; question++) {
            long[] alone = new long[texts.length];
            for (int t = 0; t < texts.length; t++) {
                alone[t] = askFirst(Feeding.with(texts[t]), question);
            }
            DUE.is("question " + question, alone[0], ofFirst[question]);
            for (int pair = 0; pair < texts.length * texts.length; pair++) {
                CallSlicer x = new CallSlicer();
                for (int turn = 0; turn < 4; turn++) {
                    int t = turn < 2 ? pair / texts.length : pair % texts.length;
                    Feeding.program(x, texts[t]);
                    DUE.is("question " + question + " of '" + texts[t] + "'", askFirst(x, question), alone[t]);
                }
            }
        }
    }

    private static void programForgets() {
        DUE.sentence("(nothing was RUN then)");
        CallSlicer x = Feeding.with("A{w=1;!2;}");
        DUE.is("not yet", x.ended(0), -1);
        x.run(0, 0);
        DUE.is("run", x.ended(0), 1);
        DUE.is("seen", x.saw(0, -1), 1);
        Feeding.program(x, "A{w=1;!2;}");
        for (int what = 0; what < 7; what++) {
            DUE.is("nothing was run: " + what, x.ended(what), -1);
        }
        DUE.is("nothing was seen", x.saw(0, -1), 0);
        DUE.is("nothing was seen", x.saw(1, 0), 0);
        x.runKept(0, 0, 0);
        DUE.is("run of what is kept", x.ended(0), 0);
        Feeding.program(x, "A{}");
        DUE.is("nothing was run", x.ended(0), -1);
    }

    private static void programStays() {
        DUE.sentence("-2: a FAULT (all stays)");
        for (String faulty : FAULTY) {
            for (int runs = 0; runs < 3; runs++) {
                CallSlicer x = Feeding.with("A{w=a;c=B(w,b);^c;}B{?a<b{!a;}^b;}");
                if (runs == 1) {
                    x.run(4, 5);
                } else if (runs == 2) {
                    x.runKept(3, 5, 4);
                }
                List<Long> before = asked(x, 6);
                DUE.is("program() of '" + faulty + "'", Feeding.program(x, faulty), -2);
                DUE.is("there is a fault", x.fault() != 0, true);
                DUE.is("all stays behind '" + faulty + "'", asked(x, 6).equals(before), true);
            }
        }
        CallSlicer none = new CallSlicer();
        for (String faulty : FAULTY) {
            DUE.is("no program", Feeding.program(none, faulty), -2);
            DUE.is("and none then", none.run(0, 0), -1);
            DUE.is("procedures", none.count(1), 0);
        }
    }

    private static void faultStands() {
        DUE.sentence("FAULT of the latest program(); 0 without, ahead of any");
        CallSlicer x = new CallSlicer();
        DUE.is("ahead of any", x.fault(), 0);
        Feeding.feed(x, "g");
        DUE.is("only fed", x.fault(), 0);
        x.program();
        DUE.is("the first", x.fault(), 1);
        DUE.is("again", x.fault(), 1);
        Feeding.feed(x, "A{a=1234;}");
        DUE.is("until the next one", x.fault(), 1);
        x.program();
        DUE.is("the next one", x.fault(), 2 + 8 * 4);
        Feeding.program(x, "A{}");
        DUE.is("without", x.fault(), 0);
        Feeding.program(x, "B");
        DUE.is("behind one without", x.fault(), 3);
        x.run(0, 0);
        DUE.is("a run changes nothing", x.fault(), 3);
    }

    private static void countWhats() {
        DUE.sentence("count: What 0 .. 5. NONE for another what");
        CallSlicer x = Feeding.with("A{a=B(1,2);b=B(a,a);}B{^1;}C{!1;}D{?a<b{!1;}}E{c=C(1,2);}");
        int[] want = {7, 5, 3, 4 + 8 + 16, 1 + 2 + 8, 0};
        for (int what = 0; what < want.length; what++) {
            DUE.is("count(" + what + ")", x.count(what), want[what]);
        }
        DUE.is("count(6)", x.count(6), -1);
        for (int what : OUTSIDE) {
            DUE.is("count(" + what + ")", x.count(what), -1);
        }
    }

    private static void countTape() {
        DUE.sentence("5: bytes of the TAPE");
        CallSlicer x = new CallSlicer();
        DUE.is("empty", x.count(5), 0);
        for (int i = 1; i <= 25; i++) {
            x.feed(BLANK, BLANK, BLANK, BLANK, BLANK);
            DUE.is("fed", x.count(5), 20 * i);
        }
        x.feed(BLANK, BLANK, BLANK, BLANK, BLANK);
        DUE.is("full", x.count(5), 500);
        x.end(499);
        DUE.is("ended", x.count(5), 499);
        x.end(500);
        DUE.is("not ended", x.count(5), 499);
    }

    private static void ofWhats() {
        DUE.sentence("of: NONE: there is none such, another what");
        CallSlicer x = Feeding.with("A{c=B(1,2);?a<b{@a<b{!1;}}^2;}B{w=1;}");
        int[][] want = {{1, 0, 0, 1, 2, -2, 0}, {2, 0, 0, -2, 11, -2, 1}, {3, 0, 1, -2, 16, -2, 1},
            {4, 0, 2, -2, 21, -2, 1}, {5, 0, 0, -2, 26, -2, 1}, {0, 1, 0, -2, 32, -2, 0}};
        for (int s = 0; s < want.length; s++) {
            for (int what = 0; what < 7; what++) {
                DUE.is("of(" + s + ", " + what + ")", x.of(s, what), want[s][what]);
                DUE.is("none such", x.of(6, what), -1);
            }
            DUE.is("of(" + s + ", 7)", x.of(s, 7), -1);
            for (int outside : OUTSIDE) {
                DUE.is("another what", x.of(s, outside), -1);
                DUE.is("none such", x.of(outside, s), -1);
            }
        }
        CallSlicer full = Feeding.with("A{" + "^1;".repeat(40) + "}");
        DUE.is("the 40th", full.of(39, 0), 5);
        DUE.is("no 41st", full.of(40, 0), -1);
    }

    private static void ofCatch() {
        DUE.sentence("5: the first STATEMENT of the CATCH to which what it throws would come (-2: to END, or no STATEMENT is there)");
        CallSlicer x = Feeding.with("A{%{%{!1;}a{b=1;!2;}!3;}c{d=1;!4;}!5;%{!6;}e{}%{c=B(1,2);}f{%{^7;}d{}}}B{!8;}");
        int[] want = {1, 4, 4, 4, -2, -2, -2, -2, 9, -2, -2};
        for (int s = 0; s < want.length; s++) {
            DUE.is("of(" + s + ", 5)", x.of(s, 5), want[s]);
        }
        CallSlicer y = Feeding.with("A{%{?a<b{!1;}@a<b{!2;}}c{@a<b{}}}");
        for (int s = 0; s < 4; s++) {
            DUE.is("of(" + s + ", 5)", y.of(s, 5), 4);
        }
        DUE.is("in the catch itself", y.of(4, 5), -2);
    }

    private static void hangsNone() {
        DUE.sentence("hangs: 0: it does not, there are none such");
        CallSlicer x = Feeding.with("A{c=1;?c<a{d=c;}}");
        DUE.is("by value", x.hangs(1, 0), 1);
        DUE.is("by value alone", x.hangs(2, 0), 1);
        DUE.is("by way", x.hangs(2, 1), 2);
        DUE.is("not the other way round", x.hangs(0, 1), 0);
        DUE.is("not on itself", x.hangs(0, 0), 0);
        for (int s = 0; s < 3; s++) {
            DUE.is("none such", x.hangs(s, 3), 0);
            DUE.is("none such", x.hangs(3, s), 0);
            for (int outside : OUTSIDE) {
                DUE.is("none such", x.hangs(s, outside), 0);
                DUE.is("none such", x.hangs(outside, s), 0);
            }
        }
        DUE.is("both", Feeding.with("A{%{!1;}c{d=c;}}").hangs(1, 0), 3);
        CallSlicer y = Feeding.with("A{c=1;d=B(1,2);}B{^c;}");
        DUE.is("not from procedure to procedure", y.hangs(2, 0), 0);
        DUE.is("nor by a call", y.hangs(1, 2), 0);
        CallSlicer full = Feeding.with("A{" + "w=w+1;".repeat(40) + "}");
        DUE.is("the 40th on the 39th", full.hangs(39, 38), 1);
        DUE.is("no 41st", full.hangs(40, 39), 0);
        DUE.is("not on the 38th", full.hangs(39, 37), 0);
    }

    private static void begunNone() {
        DUE.sentence("begun: 0, too: there is none such");
        CallSlicer x = Feeding.with("A{c=1;}B{d=1;?a<b{e=1;}}C{}");
        DUE.is("A", x.begun(0), Due.bits(0));
        DUE.is("B", x.begun(1), Due.bits(1, 2));
        DUE.is("C", x.begun(2), 0);
        DUE.is("no fourth", x.begun(3), 0);
        for (int outside : OUTSIDE) {
            DUE.is("none such", x.begun(outside), 0);
        }
        CallSlicer five = Feeding.with("A{}B{}C{}D{}E{^1;}");
        DUE.is("the fifth", five.begun(4), 1);
        DUE.is("no sixth", five.begun(5), 0);
    }

    private static void summaryNone() {
        DUE.sentence("summary: false, too: there are none such");
        CallSlicer x = Feeding.with("A{c=B(a,b);d=1;}B{w=a;^b;}");
        DUE.is("a to w", x.summary(0, 0, 2), true);
        DUE.is("b to the value", x.summary(0, 1, 0), true);
        DUE.is("z to z", x.summary(0, 5, 5), true);
        DUE.is("no IN 6", x.summary(0, 6, 5), false);
        DUE.is("no OUT 6", x.summary(0, 5, 6), false);
        for (int outside : OUTSIDE) {
            for (int port = 0; port < 6; port++) {
                DUE.is("no call", x.summary(outside, port, port), false);
                DUE.is("no in", x.summary(0, outside, port), false);
                DUE.is("no out", x.summary(0, port, outside), false);
            }
        }
        for (int s = 1; s < 5; s++) {
            for (int i = 0; i < 6; i++) {
                DUE.is("no call: " + s, x.summary(s, i, i), false);
            }
        }
    }

    private static void slicesNone() {
        DUE.sentence("back, forth, between, kept: NONE: there is none such");
        for (int n : new int[] {1, 5, 40}) {
            CallSlicer x = Feeding.with("A{" + "w=1;".repeat(n) + "}");
            long last = 1L << n - 1;
            DUE.is("back", x.back(n - 1), last);
            DUE.is("forth", x.forth(n - 1), last);
            DUE.is("between", x.between(n - 1, n - 1), last);
            DUE.is("between, nothing", x.between(0, n - 1), n == 1 ? 1 : 0);
            DUE.is("kept", x.kept(n - 1), last);
            DUE.is("back", x.back(n), -1);
            DUE.is("forth", x.forth(n), -1);
            DUE.is("between", x.between(0, n), -1);
            DUE.is("between", x.between(n, 0), -1);
            DUE.is("between", x.between(n, n), -1);
            DUE.is("kept", x.kept(n), -1);
            for (int outside : OUTSIDE) {
                DUE.is("back", x.back(outside), -1);
                DUE.is("forth", x.forth(outside), -1);
                DUE.is("between", x.between(outside, 0), -1);
                DUE.is("between", x.between(0, outside), -1);
                DUE.is("kept", x.kept(outside), -1);
            }
        }
    }

    private static void backOfNone() {
        DUE.sentence("backOf: NONE: there are none such");
        for (int told = 1; told <= 5; told++) {
            CallSlicer x = Feeding.with("A{z=1;}B{z=1;}C{z=1;}D{z=1;}E{z=1;}".substring(0, 7 * told));
            for (int p = 0; p < told; p++) {
                for (int k = 0; k < 6; k++) {
                    DUE.is("backOf(" + p + ", " + k + ")", x.backOf(p, k), k == 5 ? 1L << p : 0);
                }
                DUE.is("no OUT 6", x.backOf(p, 6), -1);
            }
            DUE.is("no procedure", x.backOf(told, 0), -1);
            for (int outside : OUTSIDE) {
                DUE.is("no procedure", x.backOf(outside, 0), -1);
                DUE.is("no OUT", x.backOf(0, outside), -1);
            }
        }
    }

    private static void runNone() {
        DUE.sentence("run: how it ended, 0 RETURNED, 1 THROWN, 2 CUT. NONE: no PROGRAM");
        CallSlicer x = new CallSlicer();
        DUE.is("no program", x.run(1, 2), -1);
        DUE.is("nothing was run", x.ended(0), -1);
        Feeding.program(x, "A{?a<b{!1;}@b<a{}}");
        DUE.is("returned", x.run(0, 0), 0);
        DUE.is("thrown", x.run(0, 1), 1);
        DUE.is("cut", x.run(1, 0), 2);
        DUE.is("no statement, but a program", Feeding.program(x, "A{}"), 0);
        DUE.is("returned", x.run(1, 0), 0);
    }

    private static void runKeptNone() {
        DUE.sentence("runKept: likewise. NONE: there is none such");
        CallSlicer x = Feeding.with("A{w=1;?a<b{!1;}@b<a{x=2;}}");
        DUE.is("thrown", x.runKept(2, 0, 1), 1);
        DUE.is("cut", x.runKept(4, 1, 0), 2);
        DUE.is("returned", x.runKept(0, 1, 0), 0);
        List<Long> before = asked(x, 5);
        int[] refused = {5, 6, -1, MIN, 40, 64, MAX};
        for (int s : refused) {
            DUE.is("none such", x.runKept(s, 0, 1), -1);
        }
        DUE.is("the latest run stays", asked(x, 5).equals(before), true);
        DUE.is("a program without statements", Feeding.program(x, "A{}"), 0);
        DUE.is("none such", x.runKept(0, 0, 0), -1);
        DUE.is("nothing was run", x.ended(0), -1);
    }

    private static void endedNone() {
        DUE.sentence("ended: Of the latest RUN, what 0 .. 6. NONE: nothing was RUN, another what");
        CallSlicer x = Feeding.with("A{w=a;x=b;y=3;z=4;?a<b{!5;}^6;}");
        for (int what = -1; what < 8; what++) {
            DUE.is("nothing was run: " + what, x.ended(what), -1);
        }
        x.run(1, 2);
        int[] thrown = {1, 5, 6, 1, 2, 3, 4};
        for (int what = 0; what < 7; what++) {
            DUE.is("ended(" + what + ")", x.ended(what), thrown[what]);
        }
        x.run(2, 1);
        int[] returned = {0, 6, 6, 2, 1, 3, 4};
        for (int what = 0; what < 7; what++) {
            DUE.is("ended(" + what + ")", x.ended(what), returned[what]);
        }
        DUE.is("ended(7)", x.ended(7), -1);
        for (int outside : OUTSIDE) {
            DUE.is("another what", x.ended(outside), -1);
        }
    }

    private static void endedCut() {
        DUE.sentence("1: its VALUE (0 if it was CUT)");
        CallSlicer x = Feeding.with("A{w=7;?a<b{!8;}@b<a{x=x+1;}y=9;^9;}");
        x.run(0, 1);
        DUE.is("thrown", x.ended(1), 8);
        x.run(1, 0);
        int[] cut = {2, 0, 3000, 7, 1499, 0, 0};
        for (int what = 0; what < 7; what++) {
            DUE.is("cut: " + what, x.ended(what), cut[what]);
        }
        x.run(0, 0);
        DUE.is("returned", x.ended(1), 9);
        CallSlicer y = Feeding.with("A{w=w+1;?w<a{c=A(a,b);}^9;}");
        y.run(31, 0);
        DUE.is("returned", y.ended(1), 9);
        y.run(32, 0);
        DUE.is("cut", y.ended(0), 2);
        DUE.is("no value", y.ended(1), 0);
    }

    private static void sawNone() {
        DUE.sentence("saw: How often (k NONE), or what it saw the k-th time (from 0 on). 0: there are none such");
        CallSlicer x = Feeding.with("A{@b<3{b=b+1;}?a<0{w=1;}}");
        for (int k = -2; k < 4; k++) {
            DUE.is("nothing was run", x.saw(1, k), 0);
        }
        x.run(7, 0);
        DUE.is("how often", x.saw(1, -1), 3);
        for (int k = 0; k < 3; k++) {
            DUE.is("time " + k, x.saw(1, k), k + 1);
        }
        DUE.is("no fourth time", x.saw(1, 3), 0);
        DUE.is("not done", x.saw(3, -1), 0);
        DUE.is("not done", x.saw(3, 0), 0);
        DUE.is("no statement", x.saw(4, -1), 0);
        int[] refused = {-2, -3, MIN, MIN + 1, 3, 250, 500, MAX};
        for (int k : refused) {
            DUE.is("saw(1, " + k + ")", x.saw(1, k), 0);
        }
        for (int outside : OUTSIDE) {
            DUE.is("no statement", x.saw(outside, -1), 0);
            DUE.is("no statement", x.saw(outside, 0), 0);
        }
        x.run(-1, 3);
        DUE.is("of the latest run", x.saw(1, -1), 0);
        DUE.is("of the latest run", x.saw(3, 0), 1);
    }

    private static void sawFirst() {
        DUE.sentence("of the first 500 sights of all together alone");
        CallSlicer x = Feeding.with("A{@b<a{b=b+1;}c=7;d=8;}");
        x.run(248, 0);
        DUE.is("the 498th", x.saw(2, 0), 7);
        DUE.is("the 499th", x.saw(3, 0), 8);
        x.run(249, 0);
        DUE.is("the 500th", x.saw(2, 0), 7);
        DUE.is("the 500th", x.saw(2, -1), 1);
        DUE.is("the 501st", x.saw(3, 0), 0);
        DUE.is("the 501st", x.saw(3, -1), 0);
        x.run(250, 0);
        DUE.is("500 of two", x.saw(0, -1) + x.saw(1, -1), 500);
        DUE.is("the last of them", x.saw(1, 249), 250);
        DUE.is("no more", x.saw(2, -1), 0);
        DUE.is("but it was done", x.ended(2), 503);
        CallSlicer y = Feeding.with("A{@b<a{b=b+1;}c=B(1,2);}B{^5;}");
        y.run(248, 0);
        DUE.is("a return", y.saw(3, 0), 5);
        DUE.is("the call, as it ends", y.saw(2, 0), 5);
        y.run(249, 0);
        DUE.is("the 500th", y.saw(3, 0), 5);
        DUE.is("the 501st", y.saw(2, 0), 0);
        DUE.is("the 501st", y.saw(2, -1), 0);
        y.runKept(2, 0, 0);
        DUE.is("of the latest run", y.saw(2, 0), 5);
    }
}
