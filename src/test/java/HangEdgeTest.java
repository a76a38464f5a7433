/** Terms, 3: the edges of ways, of what hangs on what, and of slices, sentence by sentence. */
public final class HangEdgeTest {
    private static final Due DUE = new Due("hanging");
    private static final String NAMES = "abcdefwxyz";

    private HangEdgeTest() {
    }

    public static void main(String[] args) {
        straightWays();
        twoWays();
        wayBackToLoop();
        wayOfReturn();
        wayOfThrow();
        wayOfCall();
        mayEnd();
        asFewAsCanBe();
        toldBySet();
        toldByCall();
        toldByThrow();
        toldAtBegin();
        fieldsThrough();
        uses();
        fieldsAtEnd();
        outValue();
        outHow();
        wayNeverGone();
        deciding();
        sureFromOne();
        onBegin();
        onHow();
        onCallItself();
        upToCalls();
        downFromCalls();
        matching();
        itselfToo();
        forthAndBetween();
        through();
        keptCalls();
        keptRuns();
        keptTrysAndCalls();
        DUE.finish();
    }

    /** All pairs that hang, as "y-x=how", in the order of y, then of x; all others do not. */
    private static void dueHangs(String text, String want) {
        CallSlicer x = Feeding.with(text);
        StringBuilder got = new StringBuilder();
        int n = x.count(0);
        for (int y = 0; y < n; y++) {
            for (int on = 0; on < n; on++) {
                int how = x.hangs(y, on);
                if (how != 0) {
                    got.append(got.length() == 0 ? "" : " ").append(y).append("-").append(on).append("=").append(how);
                }
            }
        }
        DUE.is("'" + text + "' hangs by '" + got + "', due is '" + want + "'", got.toString().equals(want), true);
    }

    private static void dueBegun(String text, int... want) {
        DUE.is("begun of '" + text + "'", Feeding.with(text).begun(0), Due.bits(want));
    }

    private static void dueBackOf(String text, int k, int... want) {
        DUE.is("backOf(0, " + k + ") of '" + text + "'", Feeding.with(text).backOf(0, k), Due.bits(want));
    }

    private static void dueEnds(String text, int mayThrow, int mayReturn) {
        CallSlicer x = Feeding.with(text);
        DUE.is("may throw in '" + text + "'", x.count(3), mayThrow);
        DUE.is("may return in '" + text + "'", x.count(4), mayReturn);
    }

    private static int portOf(char name) {
        return name == 'a' ? 0 : name == 'b' ? 1 : name >= 'w' ? name - 'w' + 2 : -1;
    }

    private static void straightWays() {
        DUE.sentence("from its BEGIN to its first STATEMENT; from a SET to the next one");
        dueHangs("A{}", "");
        dueBegun("A{}");
        dueBegun("A{%{}c{}}");
        dueBegun("A{c=1;}", 0);
        dueHangs("A{c=a;d=c;c=1;e=c;}", "1-0=1 3-2=1");
        dueBegun("A{c=a;d=c;c=1;e=c;}", 0, 1, 2, 3);
        dueHangs("A{c=1;%{%{d=c;}e{}}f{}f=d;}", "1-0=1 2-1=1");
    }

    private static void twoWays() {
        DUE.sentence("from a TEST, a LOOP to two (the first of its BLOCK, of the one behind : if there is one, or the next one behind it)");
        dueHangs("A{c=0;?a<b{c=1;}d=c;}", "2-1=2 3-0=1 3-2=1");
        dueHangs("A{c=0;?a<b{c=1;}:{}d=c;}", "2-1=2 3-0=1 3-2=1");
        dueHangs("A{c=0;?a<b{c=1;}:{c=2;}d=c;}", "2-1=2 3-1=2 4-2=1 4-3=1");
        dueHangs("A{c=0;?a<b{}:{c=2;}d=c;}", "2-1=2 3-0=1 3-2=1");
        dueHangs("A{c=0;?a<b{}:{}d=c;}", "2-0=1");
        dueHangs("A{c=0;?a<b{%{}e{}}:{%{}e{}}d=c;}", "2-0=1");
        dueHangs("A{c=0;@a<b{c=1;}d=c;}", "1-1=2 2-1=2 3-0=1 3-2=1");
        dueHangs("A{c=0;@a<b{}d=c;}", "1-1=2 2-0=1");
    }

    private static void wayBackToLoop() {
        DUE.sentence("from the end of a LOOP's BLOCK to it");
        dueHangs("A{@a<b{a=1;}}", "0-0=2 0-1=1 1-0=2");
        dueHangs("A{?a<b{a=1;}}", "1-0=2");
        dueHangs("A{@a<b{%{}e{}}}", "0-0=2");
        dueHangs("A{@a<b{?a<1{c=d;}:{d=c;}}}", "0-0=2 1-0=2 2-1=2 2-3=1 3-1=2 3-2=1");
        dueHangs("A{@a<b{@c<d{c=1;}}}", "0-0=2 1-0=2 1-1=2 1-2=1 2-1=2");
    }

    private static void wayOfReturn() {
        DUE.sentence("from a RETURN to the END");
        dueHangs("A{w=1;^2;w=3;c=w;}", "2-1=2 3-1=2 3-2=1");
        dueBackOf("A{w=1;^2;}", 2, 0);
        dueBackOf("A{w=1;?a<b{w=2;^3;}w=4;}", 2, 1, 2, 3, 4);
        dueBackOf("A{w=1;?a<b{w=2;}w=4;}", 2, 3);
        dueHangs("A{%{c=1;^2;}e{}d=c+e;}", "2-1=2");
    }

    private static void wayOfThrow() {
        DUE.sentence("from a THROW to the first of the CATCH (or what stands behind that, if it is empty), else to the END");
        dueHangs("A{w=1;%{w=2;!5;}e{x=w;}y=w;}", "3-1=1 3-2=2 4-1=1");
        dueHangs("A{%{w=2;!5;w=3;}e{}y=w+e;}", "2-1=2 3-0=1 3-1=1 3-2=1");
        dueHangs("A{%{w=2;!5;w=3;}e{%{}f{}}y=w+e;}", "2-1=2 3-0=1 3-1=1 3-2=1");
        dueHangs("A{@a<b{%{!5;}a{}}}", "0-0=2 0-1=1 1-0=2");
        dueHangs("A{w=2;!5;y=w;}", "2-1=2");
        dueHangs("A{%{}e{}!5;y=e;}", "1-0=2");
        dueHangs("A{%{%{!1;}c{!2;}}d{e=c+d;}}", "1-0=2 2-0=1 2-1=3");
        dueBackOf("A{w=1;!2;}", 2, 0);
        dueBackOf("A{%{w=1;!2;}c{w=3;}}", 2, 1, 2);
    }

    private static void wayOfCall() {
        DUE.sentence("from a CALL to the next one, if what it calls MAY RETURN, and as from a THROW, if that MAY THROW");
        String kept = "A{c=1;%{c=B(1,2);}e{d=c;}f=c;}";
        dueHangs(kept + "B{}", "3-1=1");
        dueHangs(kept + "B{!1;}", "2-0=1 2-1=2 3-0=1");
        dueHangs(kept + "B{?a<1{!1;}}", "2-0=1 2-1=2 3-0=1 3-1=1 5-4=2");
        String caught = "A{%{c=B(1,2);}e{d=e;}f=e;}";
        dueHangs(caught + "B{}", "");
        dueHangs(caught + "B{!1;}", "1-0=3 2-0=1");
        dueHangs(caught + "B{?a<1{!1;}}", "1-0=3 2-0=1 4-3=2");
        String alone = "A{c=B(1,2);d=c;}";
        dueHangs(alone + "B{}", "1-0=1");
        dueHangs(alone + "B{!1;}", "1-0=2");
        dueHangs(alone + "B{?a<1{!1;}}", "1-0=3 3-2=2");
        dueHangs("A{%{c=B(1,2);}e{}f=e+c;}B{?a<1{!1;}}", "1-0=1 3-2=2");
    }

    private static void mayEnd() {
        DUE.sentence("The next one behind the last is END, RETURNED. It MAY RETURN (THROW), if ways lead from BEGIN so to END");
        dueEnds("A{}", 0, 1);
        dueEnds("A{a=1;}", 0, 1);
        dueEnds("A{!1;}", 1, 0);
        dueEnds("A{^1;}", 0, 1);
        dueEnds("A{^1;!2;}", 0, 1);
        dueEnds("A{!1;^2;}", 1, 0);
        dueEnds("A{?a<b{!1;}}", 1, 1);
        dueEnds("A{?a<b{!1;}:{^1;}}", 1, 1);
        dueEnds("A{?a<b{!1;}:{!2;}}", 1, 0);
        dueEnds("A{?a<b{!1;}:{!2;}^3;}", 1, 0);
        dueEnds("A{@a<b{!1;}}", 1, 1);
        dueEnds("A{@0<1{}}", 0, 1);
        dueEnds("A{@0<1{}!1;}", 1, 0);
        dueEnds("A{%{!1;}e{}}", 0, 1);
        dueEnds("A{%{!1;}e{!e;}}", 1, 0);
        dueEnds("A{%{}e{!e;}}", 0, 1);
        dueEnds("A{%{^1;}e{!e;}}", 0, 1);
        dueEnds("A{%{?a<b{!1;}^2;}e{}!3;}", 1, 1);
        dueEnds("A{^1;a=B(1,2);}B{!1;}", 2, 1);
        for (char variable : "abcdef".toCharArray()) {
            dueEnds("A{%{!1;}" + variable + "{}}", 0, 1);
            dueEnds("A{%{c=B(1,2);}" + variable + "{}}B{!1;}", 2, 1);
        }
        dueEnds("A{a=B(1,2);}B{a=C(1,2);}C{a=D(1,2);}D{a=E(1,2);}E{!1;}", 31, 0);
        dueEnds("A{a=B(1,2);}B{a=C(1,2);}C{a=D(1,2);}D{a=E(1,2);}E{}", 0, 31);
        dueEnds("A{a=B(1,2);}B{a=C(1,2);}C{%{a=D(1,2);}e{}}D{a=E(1,2);}E{!1;}", 24, 7);
    }

    private static void asFewAsCanBe() {
        DUE.sentence("taken to be so for as few as can be");
        dueEnds("A{?a<b{^1;}a=A(1,2);}", 0, 1);
        dueEnds("A{?a<b{!1;}a=A(1,2);}", 1, 0);
        dueEnds("A{?a<b{!1;}%{a=A(1,2);}e{}}", 1, 1);
        dueEnds("A{?a<b{^1;}a=A(1,2);!2;}", 1, 1);
        dueEnds("A{a=B(1,2);}B{?a<1{!1;}a=A(1,2);}", 3, 0);
        dueEnds("A{a=B(1,2);}B{?a<1{^1;}a=A(1,2);}", 0, 3);
        dueEnds("A{?a<b{^1;}%{a=A(1,2);}e{!e;}}", 0, 1);
        String chain = "A{a=B(1,2);}B{a=C(1,2);}C{a=D(1,2);}D{a=E(1,2);}";
        dueEnds(chain + "E{?a<b{!1;}%{a=A(1,2);}e{}}", 31, 31);
        dueEnds(chain + "E{?a<b{!1;}a=A(1,2);}", 31, 0);
        dueEnds(chain + "E{?a<b{^1;}%{a=A(1,2);}e{!2;}}", 0, 31);
        dueEnds(chain + "E{?a<b{^1;}a=A(1,2);!2;}", 31, 31);
    }

    private static void toldBySet() {
        DUE.sentence("TOLD are NAMES: by a SET its NAME");
        for (char told : NAMES.toCharArray()) {
            for (char used : NAMES.toCharArray()) {
                CallSlicer x = Feeding.with("A{" + told + "=1;^" + used + ";}");
                DUE.is(told + " is told, " + used + " used", x.hangs(1, 0), told == used ? 1 : 0);
            }
        }
    }

    private static void toldByCall() {
        DUE.sentence("by a CALL, as it goes on to the next one, its VARIABLE, and, as it goes on to a CATCH, the CATCH's, always all FIELDS");
        for (char variable : "abcdef".toCharArray()) {
            for (char used : NAMES.toCharArray()) {
                int told = used == variable || used >= 'w' ? 1 : 0;
                CallSlicer x = Feeding.with("A{" + variable + "=B(1,2);^" + used + ";}B{}");
                DUE.is(variable + " of a call, " + used + " used", x.hangs(1, 0), told);
                char other = variable == 'c' ? 'd' : 'c';
                CallSlicer y = Feeding.with("A{%{" + other + "=B(1,2);}" + variable + "{^" + used + ";}}B{!1;}");
                DUE.is(variable + " of a catch, " + used + " used", y.hangs(1, 0), 2 + told);
            }
        }
        dueBackOf("A{w=1;c=B(1,2);}B{!1;}", 2, 0, 1);
        dueBackOf("A{w=1;x=2;c=B(1,2);}B{!1;}", 2, 0, 2);
        dueBackOf("A{w=1;x=2;c=B(1,2);}B{w=5;!1;}", 2, 2, 3);
    }

    private static void toldByThrow() {
        DUE.sentence("by a THROW, as it goes on to a CATCH, the CATCH's");
        for (char variable : "abcdef".toCharArray()) {
            for (char used : NAMES.toCharArray()) {
                CallSlicer x = Feeding.with("A{%{!1;}" + variable + "{^" + used + ";}}");
                DUE.is(variable + " of a catch, " + used + " used", x.hangs(1, 0), used == variable ? 3 : 2);
            }
        }
        dueHangs("A{c=1;%{!c;}c{}^c;}", "1-0=1 2-1=1");
        dueHangs("A{c=1;%{?a<b{!c;}}c{}^c;}", "2-0=1 2-1=2 3-0=1 3-2=1");
        dueHangs("A{c=1;%{^c;}c{}^c;}", "1-0=1 2-1=2");
    }

    private static void toldAtBegin() {
        DUE.sentence("at BEGIN a, b and FIELDS (by IN 0 .. 5)");
        for (char used : NAMES.toCharArray()) {
            CallSlicer x = Feeding.with("A{c=B(a,b);}B{^" + used + ";}");
            for (int i = 0; i < 6; i++) {
                DUE.is(used + " through IN " + i, x.summary(0, i, 0), portOf(used) == i);
            }
        }
    }

    private static void fieldsThrough() {
        DUE.sentence("IN 0, 1 (OPERANDS), IN 2 .. 5 (FIELDS w .. z), OUT 2 .. 5 (FIELDS)");
        for (char field : "wxyz".toCharArray()) {
            for (char used : NAMES.toCharArray()) {
                CallSlicer x = Feeding.with("A{c=B(a,b);}B{" + field + "=" + used + ";}");
                for (int i = 0; i < 6; i++) {
                    for (int k = 0; k < 6; k++) {
                        boolean told = k == portOf(field) ? i == portOf(used) : k > 1 && i == k;
                        DUE.is(field + "=" + used + " from IN " + i + " to OUT " + k, x.summary(0, i, k), told);
                    }
                }
            }
        }
        CallSlicer y = Feeding.with("A{c=1;d=2;e=B(c,d);f=B(d,c);^e;}B{^a;}");
        DUE.is("the first operand", y.back(4), Due.bits(0, 2, 4, 5));
        CallSlicer z = Feeding.with("A{c=1;d=2;e=B(c,d);f=B(d,c);^e;}B{^b;}");
        DUE.is("the second operand", z.back(4), Due.bits(1, 2, 4, 5));
    }

    private static void uses() {
        DUE.sentence("a SET, TEST, LOOP, THROW, RETURN uses its OPERANDS, IN of a CALL its OPERAND, its FIELD");
        String[] both = {"e=c+d;", "e=c<d;", "?c<d{}", "?d<c{}", "e=B(c,d);"};
        for (String statement : both) {
            dueHangs("A{c=1;d=2;" + statement + "}B{}", "2-0=1 2-1=1");
        }
        dueHangs("A{c=1;d=2;@c<d{}}", "2-0=1 2-1=1 2-2=2");
        String[] first = {"e=c;", "e=c*9;", "e=9-c;", "?c<9{}", "?9<c{}", "!c;", "^c;", "e=B(c,9);", "e=B(9,c);", "e=c+c;"};
        for (String statement : first) {
            dueHangs("A{c=1;d=2;" + statement + "}B{}", "2-0=1");
        }
        String[] neither = {"e=9;", "c=9;", "?8<9{}", "!9;", "^9;", "e=B(8,9);", "e=e;"};
        for (String statement : neither) {
            dueHangs("A{c=1;d=2;" + statement + "}B{}", "");
        }
        dueHangs("A{x=1;d=2;e=B(8,9);}B{}", "2-0=1");
        dueHangs("A{w=1;z=2;e=B(8,9);}B{}", "2-0=1 2-1=1");
    }

    private static void fieldsAtEnd() {
        DUE.sentence("OUT 2 .. 5 of a PROCEDURE its FIELD at END, by all ways there");
        for (int k = 2; k < 6; k++) {
            dueBackOf("A{w=1;x=2;y=3;z=4;}", k, k - 2);
            dueBackOf("A{w=1;x=2;y=3;z=4;^5;}", k, k - 2);
            dueBackOf("A{w=1;x=2;y=3;z=4;!5;}", k, k - 2);
            dueBackOf("A{}", k);
        }
        dueBackOf("A{?a<b{w=1;^2;}?b<a{w=3;!4;}w=5;}", 2, 0, 1, 2, 3, 4, 5, 6);
        dueBackOf("A{?a<b{w=1;}w=5;}", 2, 2);
    }

    private static void outValue() {
        DUE.sentence("OUT 0 of a PROCEDURE on RETURNS in it, on THROWS that no TRY there catches, on OUT 0 of CALLS that MAY THROW and that no TRY there catches either");
        dueBackOf("A{}", 0);
        dueBackOf("A{w=1;}", 0);
        dueBackOf("A{^1;}", 0, 0);
        dueBackOf("A{!1;}", 0, 0);
        dueBackOf("A{%{!1;}e{}}", 0);
        dueBackOf("A{%{^1;}e{}}", 0, 0);
        dueBackOf("A{%{}e{!1;}}", 0, 0);
        dueBackOf("A{%{%{}e{!1;}}f{}}", 0);
        dueBackOf("A{c=B(1,2);}B{!3;}", 0, 0, 1);
        dueBackOf("A{c=B(1,2);}B{^3;}", 0);
        dueBackOf("A{c=B(1,2);}B{w=4;?a<1{!3;}}", 0, 0, 2, 3);
        dueBackOf("A{%{c=B(1,2);}e{}}B{!3;}", 0);
        dueBackOf("A{%{}e{c=B(1,2);}}B{!3;}", 0, 0, 1);
        dueBackOf("A{c=1;?a<b{^c;}d=2;^d;}", 0, 0, 1, 2, 3, 4);
        dueBackOf("A{c=1;?a<b{^c;}d=2;}", 0, 0, 1, 2);
    }

    private static void outHow() {
        DUE.sentence("OUT 1, if it MAY THROW, on the same RETURNS, THROWS, and on OUT 1 of such CALLS");
        dueBackOf("A{}", 1);
        dueBackOf("A{^1;}", 1);
        dueBackOf("A{!1;}", 1, 0);
        dueBackOf("A{?a<b{!1;}^2;}", 1, 0, 1, 2);
        dueBackOf("A{?a<b{^1;}^2;}", 1);
        dueBackOf("A{^1;!2;}", 1);
        dueBackOf("A{^1;!2;}", 0, 0, 1);
        dueBackOf("A{%{!1;}e{}}", 1);
        dueBackOf("A{%{!1;}e{!2;}}", 1, 0, 1);
        dueBackOf("A{c=B(1,2);^3;}B{!4;}", 1, 0, 1, 2);
        dueBackOf("A{%{c=B(1,2);}e{}^3;}B{!4;}", 1);
        dueBackOf("A{c=B(1,2);}B{c=3;?a<b{!c;}c=4;}", 1, 0, 1, 2, 3);
    }

    private static void wayNeverGone() {
        DUE.sentence("for this alone another way on, that is never gone, leads from a RETURN, a THROW, a CALL of what MAY not RETURN to what stands next behind it");
        dueHangs("A{^1;c=1;}", "1-0=2");
        dueHangs("A{!1;c=1;}", "1-0=2");
        dueHangs("A{d=B(1,2);c=1;}B{!1;}", "1-0=2");
        dueHangs("A{d=B(1,2);c=1;}B{}", "");
        dueHangs("A{c=1;^2;d=c;}", "2-1=2");
        dueHangs("A{c=1;!2;d=c;}", "2-1=2");
        dueHangs("A{c=1;e=B(1,2);d=c;}B{!1;}", "2-1=2");
        dueHangs("A{c=1;e=B(1,2);d=c;}B{}", "2-0=1");
        dueHangs("A{@a<b{^1;}c=1;}", "0-1=2 1-0=2 2-0=2");
        dueHangs("A{?a<b{^1;}:{c=1;}d=1;}", "1-0=2 2-0=2 3-0=2 3-1=2");
        dueHangs("A{%{^1;}e{c=1;}d=1;}", "2-0=2");
        dueHangs("A{%{!1;}e{c=1;}d=1;}", "1-0=2");
        dueHangs("A{c=1;^2;}", "");
        dueBegun("A{^1;c=1;}", 0);
        dueBegun("A{c=1;^1;}", 0, 1);
    }

    private static void deciding() {
        DUE.sentence("TESTS, LOOPS, RETURNS, THROWS, CALLS of what MAY THROW DECIDE");
        String text = "A{a=1;?a<b{}@a<b{}c=B(1,2);d=C(1,2);!1;^2;}B{}C{!1;}";
        String[] called = {"B{}", "B{%{!1;}e{}}", "B{^1;!2;}", "B{!1;}", "B{?a<1{!1;}}", "B{a=C(1,2);}"};
        for (int i = 0; i < called.length; i++) {
            CallSlicer x = Feeding.with(text.replace("B{}", called[i]));
            int[] want = {0, 1, 1, i < 3 ? 0 : 1, 1, 1, 1};
            for (int s = 0; s < want.length; s++) {
                DUE.is(s + " decides, with " + called[i], x.of(s, 6), want[s]);
            }
        }
    }

    private static void sureFromOne() {
        DUE.sentence("y on x, if y stands on all rows of ways to END from one of the two on (also as the first), not on all from the other one");
        dueHangs("A{?a<b{c=1;?a<1{d=1;}e=1;}f=1;}", "1-0=2 2-0=2 3-2=2 4-0=2");
        dueHangs("A{?a<b{c=1;}:{d=1;}f=1;}", "1-0=2 2-0=2");
        dueHangs("A{?a<b{^1;}c=1;}", "1-0=2 2-0=2 2-1=2");
        dueHangs("A{?a<b{^1;}:{^2;}c=1;}", "1-0=2 2-0=2 3-1=2 3-2=2");
        dueHangs("A{@a<b{}}", "0-0=2");
        dueHangs("A{@a<b{?a<1{^2;}}}", "0-1=2 0-2=2 1-0=2 2-1=2");
        DUE.is("the first statement on a later one", Feeding.with("A{@a<b{^1;}}").back(0), Due.bits(0, 1));
        dueHangs("A{%{?a<b{!1;}c=1;}e{d=1;}f=1;}", "1-0=2 2-0=2 2-1=2 3-1=2");
    }

    private static void onBegin() {
        DUE.sentence("y on BEGIN, if it stands on all rows of ways from BEGIN to END");
        dueBegun("A{?a<b{c=1;}d=1;}", 0, 2);
        dueBegun("A{?a<b{c=1;}:{c=2;}}", 0);
        dueBegun("A{@a<b{c=1;}d=1;}", 0, 2);
        dueBegun("A{?a<b{c=1;^2;}d=1;}", 0);
        dueBegun("A{%{c=1;!2;}e{d=1;}f=1;}", 0, 1, 3);
        dueBegun("A{%{}e{d=1;}}");
        dueBegun("A{%{c=B(1,2);}e{d=1;}f=1;}B{}", 0, 2);
        dueBegun("A{%{c=B(1,2);}e{d=1;}f=1;}B{!1;}", 0, 2);
        dueBegun("A{c=B(1,2);f=1;}B{}", 0, 1);
        dueBegun("A{c=B(1,2);f=1;}B{!1;}", 0);
    }

    private static void onHow() {
        DUE.sentence("What hangs so on a CALL hangs on its OUT 1; on others: on the STATEMENT itself");
        CallSlicer x = Feeding.with("A{c=B(a,b);d=1;}B{?a<1{!b;}w=b;^w;}");
        DUE.is("how B ends", x.back(1), Due.bits(0, 1, 2, 3, 4, 5));
        CallSlicer y = Feeding.with("A{c=B(a,b);d=1;}B{?a<1{!b;}w=b;}");
        DUE.is("not the field of B", y.back(1), Due.bits(0, 1, 2, 3));
        CallSlicer z = Feeding.with("A{c=1;^c;d=1;}");
        DUE.is("the return itself", z.back(2), Due.bits(0, 1, 2));
        CallSlicer u = Feeding.with("A{e=7;c=B(e,b);d=1;}B{?b<1{!2;}w=a;}");
        DUE.is("not what is given for the field", u.back(2), Due.bits(1, 2, 3, 4));
    }

    private static void onCallItself() {
        DUE.sentence("IN and OUT of a CALL hang on that CALL itself");
        CallSlicer x = Feeding.with("A{?a<1{c=B(1,2);}^w;}B{}");
        DUE.is("by a field", x.back(2), Due.bits(0, 1, 2));
        DUE.is("not told as hanging", x.hangs(1, 1), 0);
        CallSlicer y = Feeding.with("A{?a<1{c=B(1,2);}^d;}B{}");
        DUE.is("by none", y.back(2), Due.bits(2));
        CallSlicer z = Feeding.with("A{?a<1{c=B(1,2);}}B{^a;}");
        DUE.is("from within, by its in and its begin", z.back(2), Due.bits(0, 1, 2));
        CallSlicer u = Feeding.with("A{c=B(1,2);}B{w=3;}C{d=A(1,2);}");
        DUE.is("a field that the first one brings", u.backOf(0, 2), Due.bits(0, 1, 2));
        DUE.is("a value that none brings", u.backOf(0, 0), 0);
    }

    private static void upToCalls() {
        DUE.sentence("UP: BEGIN on each CALL of it, its IN k on IN k of each CALL of it");
        CallSlicer x = Feeding.with("A{?a<b{c=B(1,2);}d=3;e=B(4,d);}B{w=1;f=b;}C{w=2;}");
        DUE.is("by its begin", x.back(4), Due.bits(0, 1, 3, 4));
        DUE.is("by IN 1, too", x.back(5), Due.bits(0, 1, 2, 3, 5));
        DUE.is("nothing calls it", x.back(6), Due.bits(6));
        CallSlicer y = Feeding.with("A{c=B(1,2);}B{^1;}");
        DUE.is("the very first statement", y.back(1), Due.bits(0, 1));
        CallSlicer z = Feeding.with("A{^a;}B{c=1;d=A(c,2);}");
        DUE.is("A, as any other", z.back(0), Due.bits(0, 1, 2));
        CallSlicer u = Feeding.with("A{^b;}B{c=1;d=A(c,2);}");
        DUE.is("not what it is given for a", u.back(0), Due.bits(0, 2));
        CallSlicer v = Feeding.with("A{@a<b{^w;}}B{x=1;w=2;c=A(3,4);}");
        DUE.is("IN 2 alone", v.back(1), Due.bits(0, 1, 3, 4));
    }

    private static void downFromCalls() {
        DUE.sentence("DOWN: OUT k of a CALL on OUT k of what it calls");
        CallSlicer x = Feeding.with("A{c=B(1,2);^c;d=w;e=x;}B{w=3;x=4;^5;}C{w=6;^7;}");
        DUE.is("OUT 0", x.back(1), Due.bits(0, 1, 6));
        CallSlicer y = Feeding.with("A{c=B(1,2);d=w;e=x;}B{w=3;x=4;^5;}C{w=6;^7;}");
        DUE.is("OUT 2", y.back(1), Due.bits(0, 1, 3));
        DUE.is("OUT 3", y.back(2), Due.bits(0, 2, 4));
        DUE.is("a call, all of them", y.back(0), Due.bits(0, 3, 4, 5));
        CallSlicer z = Feeding.with("A{c=B(1,2);}B{}");
        DUE.is("OUT 0 of what is called is not on calls", z.backOf(1, 0), 0);
        DUE.is("nor OUT 1", z.backOf(1, 1), 0);
        DUE.is("a field, by IN", z.backOf(1, 2), Due.bits(0));
    }

    private static void matching() {
        DUE.sentence("each UP in it that has a DOWN ahead of it, not yet come back from, goes to the CALL from which the last such DOWN went");
        CallSlicer x = Feeding.with("A{c=1;d=B(c,0);e=B(2,0);^e;}B{f=C(a,0);^f;}C{^a;}");
        DUE.is("down twice, up twice", x.back(3), Due.bits(2, 3, 4, 5, 6));
        DUE.is("up alone, to both", x.back(6), Due.bits(0, 1, 2, 4, 6));
        DUE.is("down, up, then up to both", x.back(5), Due.bits(0, 1, 2, 4, 5, 6));
        DUE.is("the first call", x.back(1), Due.bits(0, 1, 4, 5, 6));
        DUE.is("the second one, by fields on the first", x.back(2), Due.bits(1, 2, 4, 5, 6));
        DUE.is("nothing", x.back(0), Due.bits(0));
        CallSlicer y = Feeding.with("A{c=1;?a<1{d=A(c,2);^d;}^b;}");
        DUE.is("a call of itself", y.back(3), Due.bits(0, 1, 2, 3, 4));
        DUE.is("what is given on", y.back(4), Due.bits(0, 1, 2, 3, 4));
        CallSlicer z = Feeding.with("A{c=1;?a<1{d=A(3,2);^d;}^b;}");
        DUE.is("what is not", z.back(3), Due.bits(1, 2, 3, 4));
        CallSlicer u = Feeding.with("A{w=1;c=B(1,2);w=2;d=B(1,2);^x;}B{x=w;}");
        DUE.is("the second call's field", u.back(4), Due.bits(2, 3, 4, 5));
        DUE.is("both", u.back(5), Due.bits(0, 1, 2, 3, 5));
    }

    private static void itselfToo() {
        DUE.sentence("BACK of a place: all to which a row that MATCHES leads from it (itself, too)");
        CallSlicer x = Feeding.with("A{c=1;?a<b{d=B(1,2);}@a<b{}%{!1;}e{f=2;}^3;f=4;}B{z=5;}");
        for (int s = 0; s < x.count(0); s++) {
            DUE.is("back of " + s, x.back(s) >>> s & 1, 1);
            DUE.is("forth of " + s, x.forth(s) >>> s & 1, 1);
            DUE.is("between " + s + " and itself", x.between(s, s) >>> s & 1, 1);
            DUE.is("kept for " + s, x.kept(s) >>> s & 1, 1);
        }
        CallSlicer y = Feeding.with("A{c=1;d=2;}");
        DUE.is("nothing else", y.back(1), Due.bits(1));
        DUE.is("nothing else", y.forth(0), Due.bits(0));
        CallSlicer most = Feeding.with("A{" + "w=w+1;".repeat(40) + "}");
        DUE.is("forty", most.back(39), (1L << 40) - 1);
        DUE.is("forty", most.forth(0), (1L << 40) - 1);
        DUE.is("thirty-nine", most.back(38), (1L << 39) - 1);
        DUE.is("the last", most.forth(39), 1L << 39);
    }

    private static void forthAndBetween() {
        DUE.sentence("FORTH of one: those in whose BACK it is. BETWEEN x and y: those in FORTH of x and in BACK of y");
        CallSlicer x = Feeding.with("A{c=1;d=B(c,0);e=B(2,0);^e;}B{f=C(a,0);^f;}C{^a;}");
        int n = x.count(0);
        for (int y = 0; y < n; y++) {
            long forth = 0;
            for (int other = 0; other < n; other++) {
                forth |= (x.back(other) >>> y & 1) << other;
                DUE.is("between " + y + " and " + other, x.between(y, other), x.forth(y) & x.back(other));
            }
            DUE.is("forth of " + y, x.forth(y), forth);
        }
        DUE.is("c=1 and ^e: only what B and C do for both", x.between(0, 3), Due.bits(4, 5, 6));
        DUE.is("^e and c=1: nothing", x.between(3, 0), 0);
        DUE.is("the call and ^e", x.between(2, 3), Due.bits(2, 3, 4, 5, 6));
    }

    private static void through() {
        DUE.sentence("SUMMARY: OUT k of a CALL hangs on its IN i by a row that MATCHES, goes DOWN first and UP last, back to it");
        CallSlicer x = Feeding.with("A{@a<b{c=B(a,b);}}B{c=w;w=b;^c;}");
        DUE.is("w to the value", x.summary(1, 2, 0), true);
        DUE.is("b to w", x.summary(1, 1, 2), true);
        DUE.is("b to the value: only around the loop", x.summary(1, 1, 0), false);
        CallSlicer y = Feeding.with("A{c=B(1,2);d=B(3,4);}B{e=C(b,a);^e;}C{^a;}");
        DUE.is("b, as a of C", y.summary(0, 1, 0), true);
        DUE.is("a, as b of C, is not used", y.summary(0, 0, 0), false);
        DUE.is("the other call alike", y.summary(1, 1, 0), true);
        DUE.is("C's a", y.summary(2, 0, 0), true);
        DUE.is("C's b", y.summary(2, 1, 0), false);
        CallSlicer z = Feeding.with("A{?a<1{!b;}c=A(w,x);}");
        DUE.is("a to how, by way", z.summary(2, 0, 1), true);
        DUE.is("w to how, by the next one", z.summary(2, 2, 1), true);
        DUE.is("y to how", z.summary(2, 4, 1), false);
        DUE.is("y to y", z.summary(2, 4, 4), true);
        DUE.is("y to z", z.summary(2, 4, 5), false);
        CallSlicer u = Feeding.with("A{?a<1{^0;}c=A(b,0);}");
        DUE.is("a to the value", u.summary(2, 0, 0), true);
        DUE.is("b to the value: only by another call", u.summary(2, 1, 0), false);
        CallSlicer v = Feeding.with("A{?a<1{^0;}w=x;x=y;y=z;c=A(b,w);^c;}");
        for (int i = 0; i < 6; i++) {
            DUE.is("IN " + i + ", by calls in one another", v.summary(5, i, 0), i != 2);
        }
        CallSlicer t = Feeding.with("A{c=B(a,b);^c;}B{c=C(a,b);^c;}C{c=D(a,b);^c;}D{c=E(a,b);^c;}"
            + "E{?a<1{^0;}w=x;x=y;y=z;c=A(b,w);^c;}");
        for (int i = 0; i < 6; i++) {
            DUE.is("IN " + i + ", by five of them", t.summary(0, i, 0), i != 2);
            DUE.is("IN " + i + ", by five of them", t.summary(13, i, 0), i != 2);
        }
    }

    private static void keptCalls() {
        DUE.sentence("where BEGIN's IN k of a PROCEDURE is in it and a STATEMENT that is a CALL of that is, too, BACK of that CALL's IN k as well; and so on");
        CallSlicer x = Feeding.with("A{e=6;d=B(e,1);x=w;c=B(2,3);?c<x{^c;}}B{w=b;^a;}");
        DUE.is("back", x.back(5), Due.bits(1, 2, 3, 4, 5, 6, 7));
        DUE.is("kept", x.kept(5), Due.bits(0, 1, 2, 3, 4, 5, 6, 7));
        CallSlicer y = Feeding.with("A{e=6;d=B(e,1);x=w;c=C(2,3);?c<x{^c;}}B{w=b;^a;}C{^a;}");
        DUE.is("an IN that is not in it", y.kept(5), y.back(5));
        CallSlicer z = Feeding.with("A{e=6;d=B(e,1);c=B(2,3);^c;}B{w=b;^a;}");
        DUE.is("a call that is not in it", z.kept(3), Due.bits(2, 3, 5));
        CallSlicer u = Feeding.with("A{f=6;e=C(f,1);d=B(e,1);x=w;c=B(2,3);b=C(7,8);?c<x{?b<y{^c;}}}B{w=b;^a;}C{y=a;^b;}");
        DUE.is("back", u.back(8), Due.bits(2, 3, 4, 5, 6, 7, 8, 9, 10, 11, 12));
        DUE.is("and so on", u.kept(8), (1L << 13) - 1);
        CallSlicer v = Feeding.with("A{w=b;^a;}B{e=6;d=A(e,1);x=w;c=A(2,3);?c<x{^c;}}");
        DUE.is("back, with A as what is called", v.back(7), Due.bits(0, 1, 3, 4, 5, 6, 7));
        DUE.is("kept, with A as what is called", v.kept(7), Due.bits(0, 1, 2, 3, 4, 5, 6, 7));
        CallSlicer w = Feeding.with("A{e=C(1,2);f=x;d=C(3,4);^f;}B{^1;}C{d=B(3,4);x=d;}");
        DUE.is("OUT 0 of B in it is not meant", w.kept(3), Due.bits(0, 1, 3, 4, 5, 6));
        for (int k = 1; k <= 17; k++) {
            CallSlicer t = Feeding.with("A{e=6;" + "d=B(e,1);e=w;".repeat(k) + "c=B(2,3);f=c+e;}B{w=b;^a;}");
            int n = 2 * k;
            DUE.is("back over " + k, t.back(n + 2), Due.bits(n - 1, n, n + 1, n + 2, n + 3, n + 4));
            DUE.is("and so on, " + k + " times", t.kept(n + 2), (1L << n + 5) - 1);
        }
    }

    private static void dueKept(CallSlicer x, int statement, int a, int b, long... want) {
        DUE.is("runKept", x.runKept(statement, a, b), want[0]);
        for (int what = 0; what < want.length; what++) {
            DUE.is("runKept(" + statement + "): ended(" + what + ")", x.ended(what), want[what]);
        }
    }

    private static void keptRuns() {
        DUE.sentence("A RUN of what is KEPT: others are left out, with their BLOCKS, and count as not done");
        CallSlicer x = Feeding.with("A{w=1;?a<b{x=2;^7;}@y<900{y=y+1;}z=4;}");
        dueKept(x, 0, 1, 2, 0, 0, 1, 1, 0, 0, 0);
        dueKept(x, 2, 1, 2, 0, 0, 2, 0, 2, 0, 0);
        dueKept(x, 2, 2, 1, 0, 0, 1, 0, 0, 0, 0);
        dueKept(x, 3, 1, 2, 0, 7, 2, 0, 0, 0, 0);
        dueKept(x, 6, 2, 1, 0, 0, 2, 0, 0, 0, 4);
        dueKept(x, 5, 2, 1, 0, 0, 1802, 0, 0, 900, 0);
        CallSlicer y = Feeding.with("A{@w<a{w=w+1;}x=5;@y<b{y=y+1;}}");
        DUE.is("both loops", y.run(1000, 1000), 2);
        dueKept(y, 4, 1000, 1000, 0, 0, 2001, 0, 0, 1000);
        dueKept(y, 4, 1000, 1499, 0, 0, 2999, 0, 0, 1499);
        dueKept(y, 4, 1000, 1500, 2, 0, 3000, 0, 0, 1500);
        DUE.is("what is left out sees nothing", y.saw(2, -1), 0);
    }

    private static void keptTrysAndCalls() {
        DUE.sentence("(a TRY never; a CALL is done whole)");
        CallSlicer x = Feeding.with("A{%{c=B(a,b);x=1;}d{y=1;}^w;}B{w=a;?a<b{!1;}w=3;}");
        DUE.is("the catch is not kept", x.kept(3), Due.bits(0, 3, 4, 5, 6, 7));
        dueKept(x, 3, 1, 2, 0, 1, 5, 1, 0, 0);
        dueKept(x, 3, 2, 1, 0, 3, 5, 3, 0, 0);
        CallSlicer y = Feeding.with("A{%{c=B(a,b);x=1;}d{y=d;}^y;}B{w=a;?a<b{!1;}w=3;}");
        dueKept(y, 3, 1, 2, 0, 1, 5, 0, 0, 1);
        dueKept(y, 3, 2, 1, 0, 0, 3, 0, 0, 0);
        CallSlicer z = Feeding.with("A{c=7;d=B(c,c);^w;}B{w=b;^a;}");
        DUE.is("a call and what it is given", z.kept(2), Due.bits(0, 1, 2, 3));
        dueKept(z, 2, 0, 0, 0, 7, 4, 7);
        DUE.is("its return is left out", z.saw(1, 0), 0);
        DUE.is("but it ends", z.saw(1, -1), 1);
    }
}
