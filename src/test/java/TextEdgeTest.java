/** Terms, 1: the edges of the text of a program and of its faults, sentence by sentence. */
public final class TextEdgeTest {
    private static final Due DUE = new Due("text");
    private static final String BLANKS = " \n";
    private static final String DIGITS = "0123456789";
    private static final String VARIABLES = "abcdef";
    private static final String OPERANDS = VARIABLES + "wxyz" + DIGITS;
    /** What may stand where a statement may begin. */
    private static final String BEGINS = VARIABLES + "wxyz?@!^%}";
    private static final String CAPITALS = "ABCDEFGHIJKLMNOPQRSTUVWXYZ";
    /** One of each of the statements, each a 1st and a 41st one. */
    private static final String[] KINDS = {"a=1;", "z=1;", "a=A(1,2);", "?1<2{}", "@1<2{}", "!1;", "^1;"};

    private TextEdgeTest() {
    }

    public static void main(String[] args) {
        length();
        blanks();
        numbers();
        longNumbers();
        names();
        procedures();
        whatMayStand();
        grammar();
        numbering();
        forty();
        sixDeep();
        firstAlongText();
        leastKind();
        theEnd();
        wrongLetters();
        untoldCalls();
        endless();
        DUE.finish();
    }

    private static void length() {
        DUE.sentence("a TEXT of at most 500 bytes");
        DUE.whole("A{^7;" + " ".repeat(493) + "}", 1);
        DUE.whole("A{^7;" + " ".repeat(494) + "}", 1);
        DUE.whole(" ".repeat(494) + "A{^7;}", 1);
        DUE.whole("A{}" + "\n".repeat(497), 0);
        DUE.fault("A{^7;" + " ".repeat(495), 1, 500);
        CallSlicer x = Feeding.with(" ".repeat(493) + "A{^77;}");
        x.run(0, 0);
        DUE.is("the value of what stands at the very end", x.ended(1), 77);
        for (int i = 1; i <= 25; i++) {
            DUE.is("feed", x.feed(0x20202020, 0x20202020, 0x20202020, 0x20202020, 0x20202020), 20 * i);
        }
        DUE.is("a 501st byte", x.feed(0x20202020, 0x20202020, 0x20202020, 0x20202020, 0x20202020), -1);
    }

    private static void blanks() {
        DUE.sentence("blanks (32, 10) between them or not");
        String dense = "A{c=B(a,2);?c<b{w=c*3;}:{w=1;}@w<9{w=w+1;}%{!w;}e{^e;}}B{c=a-b;^c;}";
        for (String blank : new String[] {"", " ", "\n", "  \n ", "\n\n"}) {
            StringBuilder text = new StringBuilder(blank);
            for (int i = 0; i < dense.length(); i++) {
                text.append(dense.charAt(i)).append(blank);
            }
            CallSlicer x = new CallSlicer();
            DUE.is("program", Feeding.program(x, text.toString()), 10);
            DUE.is("run", x.run(7, 8), 0);
            DUE.is("value", x.ended(1), 15);
        }
        for (int b = 0; b < 256; b++) {
            CallSlicer x = new CallSlicer();
            boolean blank = b == 32 || b == 10;
            DUE.is("byte " + b + " between procedures", Feeding.program(x, "A{}" + (char) b + "B{}"), blank ? 0 : -2);
            DUE.is("byte " + b + " ahead of all", Feeding.program(x, (char) b + "A{}"), blank ? 0 : -2);
        }
    }

    private static void numbers() {
        DUE.sentence("none within a NUMBER (1 to 3 digits)");
        String[] told = {"0", "9", "10", "99", "100", "999", "000", "007", "070"};
        for (String number : told) {
            CallSlicer x = Feeding.with("A{c=1;d=1*1;e=B(1,1);}B{x=a;y=b;^1;}".replace("1", number));
            x.run(0, 0);
            int value = Integer.parseInt(number);
            DUE.is(number + " in a set", x.saw(0, 0), value);
            DUE.is(number + " on both sides of a sign", x.saw(1, 0), value * value);
            DUE.is(number + " in a return", x.saw(2, 0), value);
            DUE.is(number + " as a", x.ended(4), value);
            DUE.is(number + " as b", x.ended(5), value);
        }
        DUE.fault("A{a=;}", 1, 4);
        DUE.fault("A{a=1 2;}", 1, 6);
        DUE.fault("A{a=12\n3;}", 1, 7);
        DUE.fault("A{a=-1;}", 1, 4);
    }

    private static void longNumbers() {
        DUE.sentence("2 a NUMBER of 4 digits and more, at its first one");
        String[] ahead = {"A{a=", "A{w= ", "A{a=1+", "A{a=b<", "A{a=A(", "A{a=A(1,", "A{?", "A{?1<", "A{@", "A{@1<", "A{!", "A{^"};
        for (String begin : ahead) {
            DUE.fault(begin + "999", 1, begin.length() + 3);
            DUE.fault(begin + "0999", 2, begin.length());
            DUE.fault(begin + "1000", 2, begin.length());
            DUE.fault(begin + "4294967296", 2, begin.length());
            DUE.fault(begin + "1".repeat(500 - begin.length()), 2, begin.length());
        }
        DUE.whole("A{^999;}", 1);
        DUE.fault("A{^1000;}", 2, 3);
    }

    private static void names() {
        DUE.sentence("VARIABLES a .. f, of each PROCEDURE its own; FIELDS w, x, y, z, of all");
        CallSlicer x = Feeding.with("A{a=1;b=2;c=3;d=4;e=5;f=6;w=10;x=20;y=30;z=40;a=B(91,92);w=a;x=b+c;x=x+d;x=x+e;x=x+f;}"
            + "B{y=y+c;y=y+d;y=y+e;y=y+f;z=a+b;a=7;b=7;c=7;d=7;e=7;f=7;w=w+x;^w;}");
        DUE.is("statements", x.count(0), 29);
        x.run(0, 0);
        DUE.is("what was given back", x.ended(3), 30);
        DUE.is("its own ones", x.ended(4), 2 + 3 + 4 + 5 + 6);
        DUE.is("others of B are 0", x.ended(5), 30);
        DUE.is("a and b of B", x.ended(6), 91 + 92);
    }

    private static void procedures() {
        DUE.sentence("PROCEDURES: A .. E, told in this order, A the first one");
        StringBuilder text = new StringBuilder();
        for (int n = 1; n <= 5; n++) {
            text.append((char) ('A' + n - 1)).append("{^").append(n).append(";}");
            CallSlicer x = Feeding.with(text.toString());
            DUE.is("procedures", x.count(1), n);
            DUE.is("the last one's", x.of(n - 1, 1), n - 1);
            x.run(0, 0);
            DUE.is("A is run", x.ended(1), 1);
        }
        DUE.fault("", 1, 0);
        DUE.fault("B{}A{}", 3, 0);
        DUE.fault("A{}C{}B{}", 3, 3);
        DUE.fault(text + "F{}", 3, text.length());
        DUE.fault("A{}a{}", 1, 3);
    }

    /** Each byte behind a text: it may stand there, or the fault is its. */
    private static void mayStand(String ahead, String allowed) {
        boolean procedure = ahead.isEmpty() || ahead.endsWith("E{}") || ahead.equals("A{}");
        for (int b = 0; b < 256; b++) {
            CallSlicer x = new CallSlicer();
            Feeding.program(x, ahead + (char) b);
            String told = "byte " + b + " behind '" + ahead + "'";
            if (BLANKS.indexOf(b) >= 0 || allowed.indexOf(b) >= 0) {
                DUE.is(told, x.fault() == 0 || x.fault() / 8 > ahead.length(), true);
            } else {
                int kind = procedure && CAPITALS.indexOf(b) >= 0 ? 3 : 1;
                DUE.is(told, x.fault(), kind + 8 * ahead.length());
            }
        }
    }

    private static void whatMayStand() {
        DUE.sentence("1 what can't stand there");
        mayStand("", "A");
        mayStand("A{}", "B");
        mayStand("A{}B{}C{}D{}E{}", "");
        mayStand("A", "{");
        mayStand("A{", BEGINS);
        mayStand("A{a", "=");
        mayStand("A{z", "=");
        mayStand("A{a=", OPERANDS + "ABCDE");
        mayStand("A{w=", OPERANDS);
        mayStand("A{a=b", "+-*<;");
        mayStand("A{a=7", "+-*<;" + DIGITS);
        mayStand("A{a=7 ", "+-*<;");
        mayStand("A{a=b+", OPERANDS);
        mayStand("A{a=b-", OPERANDS);
        mayStand("A{a=b*", OPERANDS);
        mayStand("A{a=b<", OPERANDS);
        mayStand("A{a=b+c", ";");
        mayStand("A{a=b+c;", BEGINS);
    }

    private static void grammar() {
        DUE.sentence("PROGRAM: PROCEDURE { PROCEDURE } .. OPERAND: NAME or NUMBER");
        mayStand("A{a=A", "(");
        mayStand("A{a=A(", OPERANDS);
        mayStand("A{a=A(b", ",");
        mayStand("A{a=A(b,", OPERANDS);
        mayStand("A{a=A(b,c", ")");
        mayStand("A{a=A(b,c)", ";");
        for (String decider : new String[] {"A{?", "A{@"}) {
            mayStand(decider, OPERANDS);
            mayStand(decider + "a", "<");
            mayStand(decider + "a<", OPERANDS);
            mayStand(decider + "a<b", "{");
            mayStand(decider + "a<b{", BEGINS);
        }
        mayStand("A{?a<b{}", BEGINS + ":");
        mayStand("A{?a<b{}:", "{");
        mayStand("A{?a<b{}:{", BEGINS);
        mayStand("A{?a<b{}:{}", BEGINS);
        mayStand("A{@a<b{}", BEGINS);
        for (String ender : new String[] {"A{!", "A{^"}) {
            mayStand(ender, OPERANDS);
            mayStand(ender + "a", ";");
            mayStand(ender + "a;", BEGINS);
        }
        mayStand("A{%", "{");
        mayStand("A{%{", BEGINS);
        mayStand("A{%{}", VARIABLES);
        mayStand("A{%{}f", "{");
        mayStand("A{%{}f{", BEGINS);
        mayStand("A{%{}f{}", BEGINS);
    }

    private static void numbering() {
        DUE.sentence("STATEMENTS, but TRYS, are numbered from 0 on as they begin in the TEXT");
        String text = "A{%{?a<b{@a<b{!1;}}:{a=B(1,2);}%{}c{x=1;}}d{^2;}}B{%{}a{}w=1;%{%{z=2;}b{}}a{y=3;}}";
        CallSlicer x = new CallSlicer();
        DUE.is("program", Feeding.program(x, text), 9);
        String[] begins = {"?", "@", "!", "a=B", "x=", "^", "w=", "z=", "y="};
        int[] kinds = {2, 3, 4, 1, 0, 5, 0, 0, 0};
        for (int s = 0; s < begins.length; s++) {
            DUE.is("byte of " + s, x.of(s, 4), text.indexOf(begins[s]));
            DUE.is("kind of " + s, x.of(s, 0), kinds[s]);
        }
        DUE.is("no tenth", x.of(9, 0), -1);
    }

    private static void forty() {
        DUE.sentence("40 at most; 4 one too many: a 41st STATEMENT at its first byte");
        for (String kind : KINDS) {
            String most = "A{^0;" + "a=1;".repeat(38);
            DUE.whole(most + kind + "}", 40);
            DUE.whole(most + "%{" + kind + "}a{}%{}b{}}", 40);
            String full = most + "a=1;";
            DUE.fault(full + kind + "}", 4, full.length());
            DUE.fault(full + "\n " + kind + "}", 4, full.length() + 2);
            DUE.fault(full + "}B{" + kind + "}", 4, full.length() + 3);
            DUE.fault(full + "%{" + kind + "}a{}}", 4, full.length() + 2);
            DUE.fault(full + "%{}a{" + kind + "}}", 4, full.length() + 5);
            DUE.fault(full + kind.charAt(0), 4, full.length());
        }
        String loops = "A{" + "@a<b{".repeat(6) + "}".repeat(6);
        DUE.whole(loops + "?1<2{".repeat(6) + "}".repeat(6) + "^1;".repeat(28) + "}", 40);
        DUE.fault(loops + "?1<2{".repeat(6) + "}".repeat(6) + "^1;".repeat(29) + "}", 4, 2 + 36 + 36 + 84);
        DUE.whole("A{" + "^1;".repeat(8) + "}B{" + "^1;".repeat(8) + "}C{" + "^1;".repeat(8) + "}D{"
            + "^1;".repeat(8) + "}E{" + "^1;".repeat(8) + "}", 40);
        DUE.whole("A{" + "^1;".repeat(40) + "%{}a{}".repeat(62) + "}", 40);
    }

    /** Texts that open blocks of one kind, each within another one. */
    private static void sixDeep() {
        DUE.sentence("BLOCKS lie no more than 6 deep; 4 a BLOCK that is too deep at its {");
        String[] opens = {"?a<b{", "?a<b{}:{", "@a<b{", "%{", "%{}a{"};
        String[] closes = {"}", "}", "}", "}c{}", "}"};
        int[] each = {1, 1, 1, 0, 0};
        for (int outer = 0; outer < opens.length; outer++) {
            for (int inner = 0; inner < opens.length; inner++) {
                String five = "A{" + opens[outer].repeat(5);
                String six = five + opens[inner];
                String back = closes[inner] + closes[outer].repeat(5);
                DUE.whole(six + "w=1;" + back + "}", 5 * each[outer] + each[inner] + 1);
                DUE.whole(six + back + six.substring(2) + back + "}B{" + six.substring(2) + back + "}",
                    3 * (5 * each[outer] + each[inner]));
                int first = opens[outer].indexOf('{');
                DUE.fault(six + opens[outer], 4, six.length() + first);
                DUE.fault(six + "%\n {", 4, six.length() + 3);
                CallSlicer x = Feeding.with(six + "w=1;" + back + "}");
                DUE.is("its depth", x.of(x.count(0) - 1, 2), 6);
            }
        }
        sixDeepRuns();
        String six = "A{" + "?a<b{".repeat(6);
        DUE.fault(six + "}:{?1<2{", 4, six.length() + 7);
        DUE.fault("A{" + "%{".repeat(6) + "}a{%{", 4, 2 + 12 + 4);
        DUE.fault("A{}B{" + "%{".repeat(7), 4, 5 + 13);
    }

    /** What lies 6 deep is come to, whatever the blocks are in which it lies. */
    private static void sixDeepRuns() {
        String[] opens = {"?1<2{", "?2<1{}:{", "@w<1{", "%{", "%{!1;}a{"};
        String[] closes = {"}", "}", "}", "}c{}", "}"};
        for (int outer = 0; outer < opens.length; outer++) {
            for (int inner = 0; inner < opens.length; inner++) {
                CallSlicer x = Feeding.with("A{" + opens[outer].repeat(5) + opens[inner] + "w=1;" + closes[inner]
                    + closes[outer].repeat(5) + "x=w;}");
                x.run(0, 0);
                DUE.is("it is done", x.ended(3), 1);
                DUE.is("and what stands behind it", x.ended(4), 1);
                DUE.is("which hangs on it", x.hangs(x.count(0) - 1, x.count(0) - 2), 1);
            }
        }
    }

    private static void firstAlongText() {
        DUE.sentence("FAULTS, the first along the TEXT, told as its kind and 8 times its place together");
        String full = "A{" + "^1;".repeat(40);
        DUE.fault("A{g=1234;}C{}", 1, 2);
        DUE.fault("A{a=1234;g=1;}C{}", 2, 4);
        DUE.fault("A{}C{g=1;a=1234;}", 3, 3);
        DUE.fault(full + "a=1234;g=1;}C{}", 4, 122);
        DUE.fault("A{" + "%{".repeat(7) + "a=1234;", 4, 15);
        DUE.fault("A{a=B(1,2);}C{}", 3, 12);
        DUE.fault("A{a=B(1,2);a=A(1,2);}", 5, 21);
        DUE.fault("A{a=A(1,2);b=1234;}", 2, 13);
        DUE.fault("A{" + "%{".repeat(6) + full.substring(2) + "%{", 4, 2 + 12 + 121);
        DUE.fault(full + "%{".repeat(7) + "^1;", 4, 122 + 13);
        DUE.fault(full + "%{".repeat(6) + "^1;%{", 4, 122 + 12);
    }

    private static void leastKind() {
        DUE.sentence("of one place the least kind");
        String full = "A{" + "^1;".repeat(40);
        DUE.fault("A{1234=a;}", 1, 2);
        DUE.fault("A{a=1 2345;}", 1, 6);
        DUE.fault("A{a=b2345;}", 1, 5);
        DUE.fault("1234", 1, 0);
        DUE.fault("A{}1234", 1, 3);
        DUE.fault(full + "g=1;}", 1, 122);
        DUE.fault(full + "1234;}", 1, 122);
        DUE.fault(full + "{}}", 1, 122);
        DUE.fault(full + "A{}", 1, 122);
        DUE.whole(full + "}", 40);
        DUE.fault("A{" + "%{".repeat(6) + "{", 1, 14);
        DUE.fault("A{" + "%{".repeat(6) + "?a<{", 1, 17);
        DUE.fault("A{a=B(1,2);", 1, 11);
        DUE.fault("A{a=A(1,2);", 1, 11);
        DUE.fault("A{a=A(1,2);b=B(1,2);}", 5, 21);
    }

    private static void theEnd() {
        DUE.sentence("(the end: the TEXT's length)");
        String text = "A{c=B(a,12);?c<3{w=c*3;}:{w=1;}@w<9{w=w+1;}%{!w;}e{^e;}}B{c=a-b;z=7;^c;}";
        DUE.whole(text, 11);
        int untold = text.indexOf("}}") + 2;
        for (int n = 0; n < text.length(); n++) {
            DUE.fault(text.substring(0, n), n == untold ? 5 : 1, n);
            DUE.fault(text.substring(0, n) + " \n ", n == untold ? 5 : 1, n + 3);
        }
        DUE.whole(text + " \n ", 11);
        DUE.fault("A{" + " ".repeat(498), 1, 500);
        DUE.fault("A{a=B(1,2);}" + " ".repeat(488), 5, 500);
        DUE.fault("A{a=A(1,2);}" + " ".repeat(488), 6, 500);
    }

    private static void wrongLetters() {
        DUE.sentence("3 a capital letter where a PROCEDURE may begin, that is not the next one's (a sixth, too)");
        StringBuilder told = new StringBuilder();
        for (int n = 0; n <= 5; n++) {
            for (int i = 0; i < 26; i++) {
                char letter = CAPITALS.charAt(i);
                if (n == i && n < 5) {
                    DUE.whole(told + "" + letter + "{}", 0);
                } else {
                    DUE.fault(told + "" + letter + "{}", 3, told.length());
                    DUE.fault(told + " \n" + letter, 3, told.length() + 2);
                }
            }
            DUE.fault(told + "@{}", 1, told.length());
            DUE.fault(told + "[{}", 1, told.length());
            told.append(CAPITALS.charAt(n)).append("{}");
        }
    }

    private static void untoldCalls() {
        DUE.sentence("5, at the end: a CALL of a PROCEDURE that isn't told");
        for (int told = 1; told <= 5; told++) {
            for (int called = 0; called < 5; called++) {
                StringBuilder text = new StringBuilder();
                for (int p = 0; p < told; p++) {
                    text.append(CAPITALS.charAt(p)).append("{^1;");
                    if (p == told - 1) {
                        text.append("a=").append(CAPITALS.charAt(called)).append("(1,2);");
                    }
                    text.append("}");
                }
                if (called < told) {
                    DUE.whole(text.toString(), told + 1);
                } else {
                    DUE.fault(text.toString(), 5, text.length());
                    DUE.fault(text + "\n", 5, text.length() + 1);
                }
            }
        }
        DUE.fault("A{^1;%{}a{a=B(1,2);}}", 5, 21);
        DUE.fault("A{^1;a=F(1,2);}", 1, 7);
        DUE.fault("A{^1;a=Z(1,2);}", 1, 7);
    }

    private static void endless() {
        DUE.sentence("6, at the end: a PROCEDURE that MAY neither RETURN nor THROW");
        String[] without = {"A{a=A(1,2);}", "A{a=A(1,2);^1;}", "A{a=A(1,2);!1;}", "A{%{a=A(1,2);}e{^1;}}",
            "A{%{a=A(1,2);!3;}e{!1;}}", "A{?a<b{a=A(1,2);}:{b=A(2,1);}}", "A{%{!1;}e{a=A(1,2);}}",
            "A{}B{a=B(1,2);}", "A{}B{a=C(1,2);}C{a=B(1,2);}", "A{a=B(1,2);}B{a=C(1,2);}C{a=B(1,2);^1;}",
            "A{^1;}B{}C{}D{}E{a=E(1,2);}", "A{a=A(1,2);@a<b{}}", "A{@a<b{}a=A(1,2);}"};
        for (String text : without) {
            DUE.fault(text, 6, text.length());
            DUE.fault(text + " ", 6, text.length() + 1);
        }
        String[] with = {"A{^1;a=A(1,2);}", "A{!1;a=A(1,2);}", "A{?a<b{a=A(1,2);}}", "A{@a<b{a=A(1,2);}}",
            "A{@0<1{}}", "A{%{!1;a=A(1,2);}e{}}", "A{%{}e{a=A(1,2);}}", "A{a=B(1,2);}B{^1;a=A(1,2);}",
            "A{?a<b{!1;}a=A(1,2);}", "A{a=B(1,2);}B{!1;}", "A{%{a=B(1,2);a=A(1,2);}e{}}B{!1;}"};
        for (String text : with) {
            DUE.is(text, Feeding.program(new CallSlicer(), text) > 0, true);
        }
    }
}
