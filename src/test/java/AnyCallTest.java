import java.util.Random;

/** Any calls with any arguments, in any order: none throws, none that asks changes an answer. */
public final class AnyCallTest {
    private static int wrong = 0;

    public static void main(String[] args) {
        int rounds = args.length > 0 ? Integer.parseInt(args[0]) : 400;
        for (int round = 0; round < rounds; round++) {
            Random random = new Random(900001L + round);
            CallSlicer one = new CallSlicer();
            CallSlicer two = new CallSlicer();
            for (int call = 0; call < 300; call++) {
                int what = random.nextInt(24);
                long seed = random.nextLong();
                if (what >= 18) {
                    give(one, what, new Random(seed));
                    give(two, what, new Random(seed));
                } else {
                    // Only one of them is asked twice and more; both must go on to answer alike.
                    long first = ask(one, what, new Random(seed));
                    due(round, call, what, ask(one, what, new Random(seed)), first);
                    if (what >= 16 || random.nextBoolean()) {
                        due(round, call, what, ask(two, what, new Random(seed)), first);
                    }
                }
            }
        }
        System.out.println(wrong == 0 ? "all calls answered alike" : wrong + " calls did not answer alike");
        if (wrong != 0) {
            System.exit(1);
        }
    }

    private static void due(int round, int call, int what, long got, long want) {
        if (got != want) {
            wrong++;
            System.out.println("round " + round + ", call " + call + " of " + what + ": " + got + ", not " + want);
        }
    }

    private static int odd(Random random) {
        switch (random.nextInt(12)) {
            case 0: return random.nextInt();
            case 1: return Integer.MIN_VALUE;
            case 2: return Integer.MAX_VALUE;
            case 3: return -1;
            case 4: return 30 + random.nextInt(40);
            default: return random.nextInt(12);
        }
    }

    private static void give(CallSlicer x, int what, Random random) {
        if (what == 18) {
            x.feed(random.nextInt(), random.nextInt(), random.nextInt(), random.nextInt(), random.nextInt());
        } else if (what == 19) {
            x.end(odd(random));
        } else if (what == 20) {
            x.program();
        } else {
            x.end(0);
            String text = new Making(random).program();
            Feeding.program(x, what == 21 ? text : text.substring(0, random.nextInt(text.length())));
        }
    }

    private static long ask(CallSlicer x, int what, Random random) {
        int a = odd(random);
        int b = odd(random);
        int c = odd(random);
        switch (what) {
            case 0: return x.fault();
            case 1: return x.count(a);
            case 2: return x.of(a, b);
            case 3: return x.hangs(a, b);
            case 4: return x.begun(a);
            case 5: return x.summary(a, b, c) ? 1 : 0;
            case 6: return x.back(a);
            case 7: return x.forth(a);
            case 8: return x.between(a, b);
            case 9: return x.backOf(a, b);
            case 10: return x.kept(a);
            case 11: return x.ended(a);
            case 12: return x.saw(a, b);
            case 13: return x.saw(a, -1);
            case 14: return x.count(5);
            case 15: return x.of(a, 5);
            case 16: return x.run(a, b);
            default: return x.runKept(a, b, c);
        }
    }
}
