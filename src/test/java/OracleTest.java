import java.util.Random;

/** Holds the class against the oracle, over programs made from fixed seeds. */
public final class OracleTest {
    public static void main(String[] args) {
        int rounds = args.length > 0 ? Integer.parseInt(args[0]) : 700;
        long seed = args.length > 1 ? Long.parseLong(args[1]) : 1;
        int good = 0;
        int acyclic = 0;
        Comparing comparing = new Comparing();
        CallSlicer slicer = new CallSlicer();
        for (int round = 0; round < rounds; round++) {
            Random random = new Random(seed * 1000003 + round);
            String text = new Making(random).program();
            if (random.nextInt(4) == 0) {
                text = spoil(text, random);
            }
            slicer = round % 3 == 0 ? new CallSlicer() : slicer;
            Oracle oracle = comparing.read(slicer, text);
            if (oracle != null) {
                good++;
                comparing.checkText(slicer, oracle);
                comparing.checkSlices(slicer, oracle);
                comparing.checkRuns(slicer, oracle, random);
                if (!oracle.recursive()) {
                    acyclic++;
                    comparing.checkStacks(oracle);
                }
            }
        }
        System.out.println(good + " programs of " + rounds + " were whole, " + acyclic + " without recursion");
        if (good < rounds / 3 || acyclic < rounds / 20) {
            System.out.println("too few programs to tell anything");
            System.exit(1);
        }
        comparing.finish();
    }

    private static String spoil(String whole, Random random) {
        StringBuilder b = new StringBuilder(whole);
        for (int times = 1 + random.nextInt(2); times > 0; times--) {
            int at = random.nextInt(b.length() + 1);
            String signs = "{}ABCFZafgwz?@!^%:;=<>+-*(),0123456789 \n\t~" + (char) 200 + (char) 0;
            char sign = signs.charAt(random.nextInt(signs.length()));
            int how = random.nextInt(4);
            if (how == 0 && at < b.length()) {
                b.deleteCharAt(at);
            } else if (how == 1 && at < b.length()) {
                b.setCharAt(at, sign);
            } else if (how == 2 && b.length() < 490) {
                b.insert(at, sign);
            } else {
                b.setLength(at);
            }
        }
        return b.toString();
    }
}
