/** Puts a text upon the tape of a slicer. */
final class Feeding {
    private Feeding() {
    }

    static void feed(CallSlicer slicer, String text) {
        int fed = 0;
        for (int at = 0; at < text.length(); at += 20) {
            fed = slicer.feed(four(text, at), four(text, at + 4), four(text, at + 8), four(text, at + 12),
                four(text, at + 16));
        }
        if (fed == CallSlicer.NONE || !slicer.end(text.length())) {
            throw new IllegalStateException("the tape did not take " + text);
        }
    }

    private static int four(String text, int at) {
        int number = 0;
        for (int i = at; i < at + 4; i++) {
            number = number << 8 | (i < text.length() ? text.charAt(i) & 255 : ' ');
        }
        return number;
    }

    static int program(CallSlicer slicer, String text) {
        feed(slicer, text);
        return slicer.program();
    }

    static CallSlicer with(String text) {
        CallSlicer slicer = new CallSlicer();
        if (program(slicer, text) < 0) {
            throw new IllegalStateException("fault " + slicer.fault() + " in " + text);
        }
        return slicer;
    }
}
