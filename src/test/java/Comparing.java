import java.util.ArrayList;
import java.util.List;
import java.util.Random;
import java.util.Set;

/** Holds all answers of the class on a text against those of the oracle. */
final class Comparing {
    private int wrong = 0;
    private String text = "";

    private void due(String call, long got, long want) {
        if (got != want) {
            wrong++;
            if (wrong < 40) {
                System.out.println(text + ": " + call + " answered " + got + ", due is " + want);
            }
        }
    }

    /** Tells what was found, and ends with exit code 1 if an answer was not the one that is due. */
    void finish() {
        System.out.println(wrong == 0 ? "all answers are as due" : wrong + " answers are not as due");
        if (wrong != 0) {
            System.exit(1);
        }
    }

    /** The oracle of a text, read by the slicer too; null if it has a fault. */
    Oracle read(CallSlicer slicer, String newText) {
        text = newText;
        int before = slicer.count(0);
        int got = Feeding.program(slicer, text);
        try {
            Oracle oracle = new Oracle(text);
            due("program()", got, oracle.statements.size());
            due("fault()", slicer.fault(), 0);
            return got == oracle.statements.size() ? oracle : null;
        } catch (Oracle.Bad bad) {
            due("program()", got, -2);
            due("fault()", slicer.fault(), bad.fault);
            due("count(0)", slicer.count(0), before);
            return null;
        }
    }

    void checkText(CallSlicer slicer, Oracle oracle) {
        int n = oracle.statements.size();
        due("count(0)", slicer.count(0), n);
        due("count(1)", slicer.count(1), oracle.procedures.size());
        due("count(2)", slicer.count(2), oracle.statements.stream().filter(s -> s.sort == 'C').count());
        due("count(3)", slicer.count(3), oracle.letters(oracle.mayThrow));
        due("count(4)", slicer.count(4), oracle.letters(oracle.mayReturn));
        for (int s = 0; s < n; s++) {
            for (int what = 0; what < 7; what++) {
                due("of(" + s + ", " + what + ")", slicer.of(s, what), oracle.of(s, what));
            }
        }
    }

    void checkSlices(CallSlicer slicer, Oracle oracle) {
        int n = oracle.statements.size();
        for (int y = 0; y < n; y++) {
            for (int x = 0; x < n; x++) {
                due("hangs(" + y + ", " + x + ")", slicer.hangs(y, x), oracle.hangs[y][x]);
                due("between(" + y + ", " + x + ")", slicer.between(y, x), oracle.forth(y) & oracle.back(x));
            }
            due("back(" + y + ")", slicer.back(y), oracle.back(y));
            due("forth(" + y + ")", slicer.forth(y), oracle.forth(y));
            due("kept(" + y + ")", slicer.kept(y), oracle.kept(y));
            for (int ik = 0; ik < 36; ik++) {
                due("summary(" + y + ", " + ik / 6 + ", " + ik % 6 + ")",
                    slicer.summary(y, ik / 6, ik % 6) ? 1 : 0, oracle.summary(y, ik / 6, ik % 6) ? 1 : 0);
            }
        }
        for (int p = 0; p < oracle.procedures.size(); p++) {
            due("begun(" + p + ")", slicer.begun(p), oracle.begun(p));
            for (int k = 0; k < 6; k++) {
                due("backOf(" + p + ", " + k + ")", slicer.backOf(p, k), oracle.backOf(p, k));
            }
        }
    }

    /** The oracle's own two searches must agree where both are exact. */
    void checkStacks(Oracle oracle) {
        int n = 0;
        for (String place : oracle.ties.keySet()) {
            if (n++ % 5 == 0) {
                Set<String> stacks = oracle.backByStacks(place, oracle.procedures.size());
                due("stacks of " + place, stacks.equals(oracle.backPlaces(place)) ? 1 : 0, 1);
            }
        }
    }

    void checkRuns(CallSlicer slicer, Oracle oracle, Random random) {
        int n = oracle.statements.size();
        for (int run = 0; run < 3; run++) {
            int a = random.nextInt(7) - 2;
            int b = random.nextInt(4) == 0 ? random.nextInt() : random.nextInt(7) - 2;
            int how = slicer.run(a, b);
            due("run(" + a + ", " + b + ")", how, oracle.run(-1L, a, b));
            checkRun(slicer, oracle, how);
            List<int[]> whole = new ArrayList<>(oracle.sights);
            int s = n == 0 ? 0 : random.nextInt(n);
            if (n > 0) {
                String call = "runKept(" + s + ", " + a + ", " + b + ")";
                int keptHow = slicer.runKept(s, a, b);
                due(call, keptHow, oracle.run(oracle.kept(s), a, b));
                checkRun(slicer, oracle, keptHow);
                if (how != 2 && whole.size() < 500) {
                    due(call + " ended", keptHow == 2 ? 1 : 0, 0);
                    checkSame(s, whole, oracle.sights, call);
                }
            }
        }
    }

    /** What a slice is for: its statement sees the same. */
    private void checkSame(int s, List<int[]> whole, List<int[]> kept, String call) {
        StringBuilder one = new StringBuilder();
        StringBuilder two = new StringBuilder();
        for (int[] sight : whole) {
            one.append(sight[0] == s ? sight[1] + " " : "");
        }
        for (int[] sight : kept) {
            two.append(sight[0] == s ? sight[1] + " " : "");
        }
        due(call + " saw the same: " + one + "/" + two, one.toString().equals(two.toString()) ? 1 : 0, 1);
    }

    private void checkRun(CallSlicer slicer, Oracle oracle, int how) {
        due("ended(0)", slicer.ended(0), how);
        due("ended(1)", slicer.ended(1), oracle.value);
        due("ended(2)", slicer.ended(2), oracle.done);
        for (int f = 0; f < 4; f++) {
            due("ended(" + (3 + f) + ")", slicer.ended(3 + f), oracle.fields.get("wxyz".charAt(f)));
        }
        int[] times = new int[40];
        for (int[] sight : oracle.sights) {
            due("saw(" + sight[0] + ", " + times[sight[0]] + ")", slicer.saw(sight[0], times[sight[0]]), sight[1]);
            times[sight[0]]++;
        }
        for (int s = 0; s < oracle.statements.size(); s++) {
            due("saw(" + s + ", -1)", slicer.saw(s, -1), times[s]);
            due("saw(" + s + ", " + times[s] + ")", slicer.saw(s, times[s]), 0);
        }
    }
}
