/** Holds answers against what is due, under the sentence of the document that asks for them. */
final class Due {
    private final String about;
    private String sentence = "";
    private int sentences = 0;
    private int askedOfSentence = 0;
    private int asked = 0;
    private int wrong = 0;

    Due(String test) {
        about = test;
    }

    /** The checks that follow are those of this sentence; each needs two at least, one for each side. */
    void sentence(String words) {
        closeSentence();
        sentence = words;
        sentences++;
        askedOfSentence = 0;
    }

    private void closeSentence() {
        if (sentences > 0 && askedOfSentence < 2) {
            tell("has fewer than two checks");
        }
    }

    private void tell(String what) {
        wrong++;
        System.out.println(about + ", '" + sentence + "': " + what);
    }

    void is(String what, long got, long want) {
        asked++;
        askedOfSentence++;
        if (got != want) {
            tell(what + " answered " + got + ", due is " + want);
        }
    }

    void is(String what, boolean got, boolean want) {
        is(what, got ? 1 : 0, want ? 1 : 0);
    }

    /** The text is a program of so many statements. */
    void whole(String text, int statements) {
        CallSlicer x = new CallSlicer();
        is("program() of '" + text + "'", Feeding.program(x, text), statements);
        is("fault() of '" + text + "'", x.fault(), 0);
    }

    void fault(String text, int kind, int place) {
        CallSlicer x = new CallSlicer();
        is("program() of '" + text + "'", Feeding.program(x, text), -2);
        is("fault() of '" + text + "'", x.fault(), kind + 8 * place);
    }

    static long bits(int... numbers) {
        long all = 0;
        for (int n : numbers) {
            all |= 1L << n;
        }
        return all;
    }

    void finish() {
        closeSentence();
        System.out.println(about + ": " + sentences + " sentences, " + asked + " checks, " + wrong + " wrong");
        if (wrong != 0) {
            System.exit(1);
        }
    }
}
