import java.util.ArrayList;
import java.util.List;
import java.util.Random;

/** Holds the class against the oracle, over all small bodies of A (args: the most items, one text of how many). */
public final class SmallTest {
    private static final String[] LEAVES = {"c=a;", "w=c;", "c=B(c,w);", "!c;", "^w;"};
    /** What A may call: it returns, throws, does both, loops, calls itself, calls A, catches. */
    private static final String[] OTHERS = {
        "B{^a;}", "B{}", "B{!b;}", "B{?a<1{!w;}}", "B{?w<b{^a;}:{w=a;}!w;}", "B{@w<b{w=w+1;}^w;}",
        "B{?a<w{c=B(w,b);}^c;}", "B{%{d=A(b,a);}d{w=d;}^w;}", "B{?b<a{d=A(w,a);}!d;}",
        "B{%{c=C(a,b);x=c;}d{?a<d{!d;}w=x;}^x;}C{?a<b{x=b;!x;}w=x;^w;}"
    };

    private final List<List<String>> rows = new ArrayList<>();

    private SmallTest(int most) {
        rows.add(List.of(""));
        for (int n = 1; n <= most; n++) {
            rows.add(rowsOf(n));
        }
    }

    /** All rows with n items in all, those within blocks too. */
    private List<String> rowsOf(int n) {
        List<String> all = new ArrayList<>();
        for (int first = 1; first <= n; first++) {
            for (String item : itemsOf(first)) {
                for (String rest : rows.get(n - first)) {
                    all.add(item + rest);
                }
            }
        }
        return all;
    }

    private List<String> itemsOf(int n) {
        List<String> all = new ArrayList<>(n == 1 ? List.of(LEAVES) : List.of());
        for (String inner : rows.get(n - 1)) {
            all.add("?a<c{" + inner + "}");
            all.add("@c<w{" + inner + "}");
        }
        for (int m = 0; m < n; m++) {
            for (String one : rows.get(m)) {
                for (String two : rows.get(n - 1 - m)) {
                    all.add("?a<c{" + one + "}:{" + two + "}");
                    all.add("%{" + one + "}c{" + two + "}");
                }
            }
        }
        return all;
    }

    public static void main(String[] args) {
        int most = args.length > 0 ? Integer.parseInt(args[0]) : 2;
        int step = args.length > 1 ? Integer.parseInt(args[1]) : 1;
        Comparing comparing = new Comparing();
        CallSlicer slicer = new CallSlicer();
        Random random = new Random(7);
        int texts = 0;
        int whole = 0;
        SmallTest small = new SmallTest(most);
        for (List<String> bodies : small.rows) {
            for (int at = 0; at < bodies.size() * OTHERS.length; at += step) {
                String text = "A{" + bodies.get(at / OTHERS.length) + "}" + OTHERS[at % OTHERS.length];
                texts++;
                Oracle oracle = comparing.read(slicer, text);
                if (oracle != null) {
                    whole++;
                    comparing.checkText(slicer, oracle);
                    comparing.checkSlices(slicer, oracle);
                    comparing.checkRuns(slicer, oracle, random);
                }
            }
        }
        System.out.println(whole + " small programs of " + texts + " were whole");
        comparing.finish();
    }
}
