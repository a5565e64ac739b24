/** The sentences of paragraph 2 and of promises 13 to 16 that name a boundary, each with a test of its own. */
public final class TextsEdgesTest {
    private static final Due due = new Due();
    private static final int MIN = Integer.MIN_VALUE;
    private static final int MAX = Integer.MAX_VALUE;

    public static void main(String[] args) {
        bytesOfWord();
        sixtyBytes();
        emptyTape();
        uses();
        faultLeavesTextAhead();
        inPlaceOfOneAhead();
        digits();
        names();
        fiveOpen();
        openCloses();
        noBlanks();
        oneComparison();
        firstByte();
        endsTooEarly();
        wraps();
        cutAndRest();
        byZero();
        oneOrZero();
        whatBindsFirst();
        namesOfGain();
        airHeld();
        airWithoutText();
        gainHeld();
        gainWithoutText();
        untell();
        due.end("TextsEdgesTest");
    }

    private static void faultOf(int use, String text, int fault) {
        OffForSecond x = new OffForSecond();
        due.is("'" + text + "'", Due.tellText(x, use, text), fault < 0 ? 1 : -10 - fault);
        due.is("THE TAPE is empty after '" + text + "'", x.count(8), 0);
        due.is("a TEXT of '" + text + "'", x.untell(use), fault < 0 ? 1 : 0);
    }

    private static void fine(String text) {
        faultOf(0, text, -1);
    }

    /** What a TEXT gives, if that is 1 or 0. */
    private static void gives(String text, int a, int w, int o, int want) {
        OffForSecond x = new OffForSecond();
        due.is("'" + text + "'", Due.tellText(x, 0, text), 1);
        due.is("'" + text + "' of " + a + ", " + w + ", " + o, x.law(0, a, w, o), want);
    }

    private static void bytesOfWord() {
        due.edge("13", "The n lowest bytes (1 .. 8) of a word, the lowest first");
        OffForSecond x = new OffForSecond();
        int[] wrong = {0, 9, -1, MIN, MAX};
        for (int n : wrong) {
            due.is("n " + n, x.feed(0x3131313131313131L, n), Due.BEYOND);
        }
        due.is("none came", x.count(8), 0);
        due.is("1 of eight", x.feed(0x3131313131313139L, 1), 1);
        due.is("read", x.text(0), 1);
        due.is("the lowest", x.law(0, 0, 0, 0), 9);
        due.is("all 8", x.feed(0x312D3030302B3635L, 8), 8);
        due.is("read, too", x.text(0), 1);
        due.is("56+000-1", x.law(0, 0, 0, 0), 55);
        due.is("a word below 0", x.feed(-1L, 8), 8);
        due.is("no byte of it is in a TEXT", x.text(0), -10);
        due.is("a byte above 127 behind a name", x.feed(0xB161L, 2), 2);
        due.is("is none in a TEXT", x.text(0), -11);
    }

    private static void sixtyBytes() {
        due.edge("13", "THE TAPE (bytes, at most 60)");
        for (int n = 1; n <= 8; n++) {
            OffForSecond x = new OffForSecond();
            for (int i = 0; i < 60 - n; i++) {
                x.feed(0, 1);
            }
            due.is("59 stand", x.count(8), 60 - n);
            if (n < 8) {
                due.is("one more than there is room for, n " + (n + 1), x.feed(0, n + 1), Due.FULL);
                due.is("none of them came", x.count(8), 60 - n);
            }
            due.is("to the last, n " + n, x.feed(0, n), 60);
            due.is("sixty are all", x.feed(0, 1), Due.FULL);
            due.is("sixty stay", x.count(8), 60);
        }
        OffForSecond x = new OffForSecond();
        String sixty = "1+1+1+1+1+1+1+1+1+1+1+1+1+1+1+1+1+1+1+1+1+1+1+1+1+1+1+1+1+16";
        due.is("sixty bytes of a TEXT", Due.tellText(x, 0, sixty), 1);
        due.is("all are read", x.law(0, 0, 0, 0), 29 + 16);
        due.is("room again", x.feed(0, 8), 8);
    }

    private static void emptyTape() {
        due.edge("14", "how many there are, if it ends too early");
        OffForSecond x = new OffForSecond();
        due.is("nothing for USE 0", x.text(0), -10);
        due.is("nothing for USE 1", x.text(1), -10);
        due.is("no TEXT of it", x.untell(0), 0);
        due.is("no ERROR", x.told(1), 0);
    }

    private static void uses() {
        due.edge("14", "BEYOND (THE TAPE stays).");
        OffForSecond x = new OffForSecond();
        x.feed(0x39, 1);
        int[] wrong = {-1, 2, MIN, MAX};
        for (int use : wrong) {
            due.is("use " + use, x.text(use), Due.BEYOND);
            due.is("THE TAPE stays", x.count(8), 1);
        }
        due.is("as it was", x.text(0), 1);
        due.is("9", x.law(0, 0, 0, 0), 9);
        x.feed(0x38, 1);
        due.is("the last USE", x.text(1), 1);
        due.is("8", x.law(1, 0, 0, 0), 8);
        due.edge("16", "What a USE gives with its NAMES in order as a, b, c (any number). BEYOND.");
        for (int use : wrong) {
            due.is("use " + use, x.law(use, 0, 0, 0), Due.BEYOND);
        }
    }

    private static void faultLeavesTextAhead() {
        due.edge("14", "-10 less the FAULT (no ERROR; the one ahead stays; THE TAPE is empty, too).");
        OffForSecond x = new OffForSecond();
        due.is("one", Due.tellText(x, 1, "s*7+m"), 1);
        due.is("a fault", Due.tellText(x, 1, "1+1+a"), -14);
        due.is("THE TAPE is empty", x.count(8), 0);
        due.is("the one ahead stays", x.law(1, 2, 3, 0), 17);
        for (int k = 1; k <= 6; k++) {
            due.is("no ERROR " + k, x.told(k), 0);
        }
        due.is("a fault without one ahead", Due.tellText(x, 0, "9)"), -11);
        due.is("none then", x.untell(0), 0);
        due.is("six are open", Due.tellText(x, 0, "!(!(!("), -15);
        due.is("none of them now", Due.tellText(x, 0, "(((((a+7)))))"), 1);
        due.is("a ( is open", Due.tellText(x, 0, "1|(2+"), -15);
        due.is("not now", Due.tellText(x, 0, "2)"), -11);
        due.is("signs wait", Due.tellText(x, 0, "1|!2+3*("), -18);
        due.is("none of them now, too", Due.tellText(x, 0, "a*3"), 1);
        due.is("nothing of them is in it", x.law(0, 5, 0, 0), 15);
        due.is("a NUMBER of 4 digits is open", Due.tellText(x, 0, "1+1234"), 1);
        due.is("not now, too", Due.tellText(x, 0, "5678"), 1);
    }

    private static void inPlaceOfOneAhead() {
        due.edge("14", "THE TAPE, which is empty then, is the TEXT of a USE (0, 1), in place of one ahead: 1.");
        OffForSecond x = new OffForSecond();
        due.is("long", Due.tellText(x, 0, "1+2+3+4+5+6+7+8+9"), 1);
        due.is("45", x.law(0, 0, 0, 0), 45);
        due.is("THE TAPE is empty then", x.count(8), 0);
        due.is("short", Due.tellText(x, 0, "w"), 1);
        due.is("nothing of the long one", x.law(0, 1, 2, 3), 2);
    }

    private static void digits() {
        due.edge("14", "a NUMBER of 1 to 4 digits");
        fine("0");
        fine("9999");
        fine("0000");
        faultOf(0, "00000", 4);
        faultOf(0, "99999", 4);
        faultOf(0, "a+12345", 6);
        faultOf(0, "12345+", 4);
        fine("1234+1234");
        faultOf(0, "1234+12345", 9);
        faultOf(0, "/", 0);
        faultOf(0, ":", 0);
        faultOf(0, "1/:", 2);
        OffForSecond x = new OffForSecond();
        Due.tellText(x, 0, "9999-9876");
        due.is("123", x.law(0, 0, 0, 0), 123);
        Due.tellText(x, 0, "0008");
        due.is("8", x.law(0, 0, 0, 0), 8);
    }

    private static void names() {
        String[] words = {"NAMES a AIR by KIND, w WET, o OUTS", "NAMES s 1, if SAFE, else 0, m MARGIN, o OUTS"};
        for (int use = 0; use < 2; use++) {
            due.edge("14", words[use]);
            String right = use == 0 ? "awo" : "smo";
            for (char c = 0; c < 256; c++) {
                boolean begins = right.indexOf(c) >= 0 || c >= '0' && c <= '9';
                OffForSecond x = new OffForSecond();
                x.feed(c, 1);
                due.is("byte " + (int) c, x.text(use), begins ? 1 : c == '!' || c == '(' ? -11 : -10);
                x.feed('1' + 256 * c, 2);
                boolean goesOn = c >= '0' && c <= '9';
                boolean sign = "|&<=>+-*/%".indexOf(c) >= 0;
                due.is("1 and byte " + (int) c, x.text(use), goesOn ? 1 : sign ? -12 : -11);
            }
            faultOf(use, right.charAt(0) + "" + right.charAt(1), 1);
            faultOf(use, right.charAt(2) + "7", 1);
        }
    }

    private static void fiveOpen() {
        due.edge("14", "At most 5 of ! and ( are open at once.");
        fine("!!!!!1");
        faultOf(0, "!!!!!!1", 5);
        fine("(((((1)))))");
        faultOf(0, "((((((1))))))", 5);
        fine("!(!(!a))");
        faultOf(0, "!(!(!(a)))", 5);
        faultOf(0, "!(!(!!a))", 5);
        faultOf(0, "(((((!a)))))", 5);
        fine("1+(1+(1+(1+(1+(1)))))");
        fine("1+(1+(1+(1+(1+!1))))");
        faultOf(0, "1+(1+(1+(1+(1+(1+!1", 17);
        faultOf(0, "1+(1+(1+(1+(1+(1+(1", 17);
    }

    private static void openCloses() {
        due.edge("14", "Q: a NUMBER of 1 to 4 digits, a NAME, ! Q, ( T ).");
        fine("!!!!!1+!!!!!1");
        fine("!!!!!1*!!!!!w");
        fine("(((((1)))))*(((((1)))))");
        fine("!(((!a)))+!!!!!1");
        fine("!((((a))))+(((((1)))))");
        fine("((((!a+!w))))");
        fine("((((!1+(w)))))");
        faultOf(0, "((((!1+((w))))))", 8);
        fine("!((((a))))=!((((a))))");
        faultOf(0, "!((((!a))))", 5);
        faultOf(0, "((((!a+!!w))))", 8);
        faultOf(0, "(((((a))))))", 11);
        faultOf(0, "(((((a))))", 10);
        faultOf(0, ")", 0);
        faultOf(0, "()", 1);
        faultOf(0, "!)", 1);
        faultOf(0, "a!", 1);
        faultOf(0, "a(", 1);
        faultOf(0, "(a)(", 3);
        faultOf(0, "(a)!", 3);
        faultOf(0, "(a)1", 3);
        faultOf(0, "(1)2", 3);
        faultOf(0, "!(1)2", 4);
        faultOf(0, "(a)w", 3);
    }

    private static void noBlanks() {
        due.edge("14", "No blanks.");
        faultOf(0, " a", 0);
        faultOf(0, "a ", 1);
        faultOf(0, "a +w", 1);
        faultOf(0, "a+ w", 2);
        faultOf(0, "( a)", 1);
        faultOf(0, "(a )", 2);
        faultOf(0, "1 2", 1);
        faultOf(0, "\n", 0);
        faultOf(0, "a\n", 1);
        faultOf(0, "a\u0000", 1);
    }

    private static void oneComparison() {
        due.edge("14", "B: S, or S < S, S = S, S > S.");
        String signs = "<=>";
        for (int i = 0; i < 3; i++) {
            for (int j = 0; j < 3; j++) {
                char one = signs.charAt(i);
                char two = signs.charAt(j);
                faultOf(0, "a" + one + "w" + two + "o", 3);
                faultOf(0, "1|a+1" + one + "w*2" + two + "o", 9);
                faultOf(0, "a" + one + two + "w", 2);
                fine("(a" + one + "w)" + two + "o");
                fine("a" + one + "(w" + two + "o)");
                fine("a" + one + "w&w" + two + "o");
                fine("a" + one + "w|w" + two + "o");
            }
        }
    }

    private static void firstByte() {
        due.edge("14", "FAULT: the place of the first byte with which no TEXT goes on");
        faultOf(0, "+", 0);
        faultOf(0, "+a)", 0);
        faultOf(0, "a++", 2);
        faultOf(0, "aa+)", 1);
        faultOf(0, "(a&)+)", 3);
        faultOf(0, "(a))(", 3);
        StringBuilder sixty = new StringBuilder();
        for (int i = 0; i < 29; i++) {
            sixty.append("1+");
        }
        faultOf(0, sixty + "1)", 59);
        faultOf(0, sixty + "++", 58);
        faultOf(0, sixty + "11", -1);
    }

    private static void endsTooEarly() {
        due.edge("14", "how many there are, if it ends too early");
        faultOf(0, "!", 1);
        faultOf(0, "(", 1);
        faultOf(0, "(1", 2);
        faultOf(0, "1+", 2);
        faultOf(0, "1<", 2);
        faultOf(0, "(((((1))))", 10);
        StringBuilder sixty = new StringBuilder();
        for (int i = 0; i < 30; i++) {
            sixty.append("a+");
        }
        faultOf(0, sixty.toString(), 60);
    }

    private static void wraps() {
        due.edge("16", "Ints that wrap");
        gives("a+1=w", MAX, MIN, 0, 1);
        gives("a-1=w", MIN, MAX, 0, 1);
        gives("a*2=w", MAX, -2, 0, 1);
        gives("a*a=w", 65536, 0, 0, 1);
        gives("a*a=w", 46341, 46341 * 46341, 0, 1);
        gives("0-a=a", MIN, 0, 0, 1);
        gives("a+w<0", MAX, 1, 0, 1);
        gives("a+w>0", MAX, 0, 0, 1);
        gives("9999*9999*9999=w", 0, 9999 * 9999 * 9999, 0, 1);
        gives("a<w", MIN, MAX, 0, 1);
        gives("a>w", MIN, MAX, 0, 0);
    }

    private static void cutAndRest() {
        due.edge("16", "/ cut, % the rest that it leaves");
        int[][] rows = {{7, 2, 3, 1}, {-7, 2, -3, -1}, {7, -2, -3, 1}, {-7, -2, 3, -1}, {1, 2, 0, 1}, {-1, 2, 0, -1}, {6, 3, 2, 0},
            {MIN, -1, MIN, 0}, {MIN, 1, MIN, 0}, {MIN, 2, MIN / 2, 0}, {MIN, MAX, -1, -1}, {MAX, MIN, 0, MAX}, {5, 5, 1, 0}, {-6, 5, -1, -1}};
        for (int[] each : rows) {
            gives("a/w=o", each[0], each[1], each[2], 1);
            gives("a%w=o", each[0], each[1], each[3], 1);
        }
        due.edge("16", "Quotients are cut toward 0.");
        gives("199+(0-7)/2", 0, 0, 0, 196);
        gives("199+a/w", -199, 200, 0, 199);
        gives("100+a/w", 199, -200, 0, 100);
    }

    private static void byZero() {
        due.edge("16", "both by 0 are 0");
        int[] some = {MIN, -1, 0, 1, MAX};
        for (int a : some) {
            gives("7+a/0", a, 0, 0, 7);
            gives("7+a%0", a, 0, 0, 7);
            gives("7+a/(w-o)", a, 3, 3, 7);
            gives("7+a%(w-o)", a, 3, 3, 7);
        }
    }

    private static void oneOrZero() {
        due.edge("16", "| & < = > ! are 1 or 0, what is not 0 being true; all is worked out");
        int[] some = {MIN, -1, 0, 1, 2, MAX};
        for (int a : some) {
            for (int w : some) {
                gives("7+(a|w)", a, w, 9, a != 0 || w != 0 ? 8 : 7);
                gives("7+(a&w)", a, w, 9, a != 0 && w != 0 ? 8 : 7);
                gives("7+(a<w)", a, w, 9, a < w ? 8 : 7);
                gives("7+(a=w)", a, w, 9, a == w ? 8 : 7);
                gives("7+(a>w)", a, w, 9, a > w ? 8 : 7);
            }
            gives("7+!a", a, 5, 9, a == 0 ? 8 : 7);
            gives("7+!!a", a, 5, 9, a != 0 ? 8 : 7);
            gives("7+(1|a/0)", a, 5, 9, 8);
            gives("7+(0&a/0)", a, 5, 9, 7);
        }
    }

    private static void whatBindsFirst() {
        due.edge("16", "T: A { | A }. A: B { & B }.");
        gives("1|0&0", 5, 6, 7, 1);
        gives("(1|0)&0", 5, 6, 7, 0);
        gives("0&0|1", 5, 6, 7, 1);
        gives("0&(0|1)", 5, 6, 7, 0);
        due.edge("16", "B: S, or S < S, S = S, S > S. S: P { + P, - P }. P: Q { * Q, / Q, % Q }.");
        gives("1<2&3", 5, 6, 7, 1);
        gives("2>1+1", 5, 6, 7, 0);
        gives("2=1+1", 5, 6, 7, 1);
        gives("9-1*2", 5, 6, 7, 7);
        gives("9-8/2", 5, 6, 7, 5);
        gives("9-8%3", 5, 6, 7, 7);
        gives("9-1+2", 5, 6, 7, 10);
        gives("9-5-2", 5, 6, 7, 2);
        gives("90/9*2", 5, 6, 7, 20);
        gives("90/9/2", 5, 6, 7, 5);
        gives("8%5*9", 5, 6, 7, 27);
        gives("9*8%5", 5, 6, 7, 2);
        gives("!1+1", 5, 6, 7, 1);
        gives("!0*9", 5, 6, 7, 9);
        gives("!0<1", 5, 6, 7, 0);
        gives("0", 5, 6, 7, 0);
        gives("9*0", 5, 6, 7, 0);
    }

    private static void airHeld() {
        due.edge("16", "held within 0 .. 199");
        OffForSecond x = new OffForSecond();
        Due.tellText(x, 0, "a+w-o");
        int[][] rows = {{-1, 0}, {0, 0}, {1, 1}, {198, 198}, {199, 199}, {200, 199}, {MIN, 0}, {MAX, 199}};
        for (int[] each : rows) {
            due.is("a+w-o of " + each[0], x.law(0, each[0], 0, 0), each[1]);
        }
        due.is("wrapped, then held", x.law(0, MAX, 1, 0), 0);
        due.is("wrapped, then held, below", x.law(0, MIN, 0, 1), 199);
        x.pitch(0, 1);
        Due.tellText(x, 0, "a+154");
        due.is("AIR 199", x.pitchIs(0, 4), 199);
        Due.tellText(x, 0, "a+155");
        due.is("AIR 200 is held", x.pitchIs(0, 4), 199);
        Due.tellText(x, 0, "a-45");
        due.is("AIR 0", x.pitchIs(0, 4), 0);
        Due.tellText(x, 0, "a-46");
        due.is("AIR -1 is held", x.pitchIs(0, 4), 0);
    }

    private static void airWithoutText() {
        due.edge("16", "without a TEXT a (held likewise)");
        OffForSecond x = new OffForSecond();
        int[][] rows = {{MIN, 0}, {-1, 0}, {0, 0}, {1, 1}, {199, 199}, {200, 199}, {MAX, 199}};
        for (int[] each : rows) {
            due.is("a " + each[0], x.law(0, each[0], 77, 88), each[1]);
        }
    }

    private static void gainHeld() {
        due.edge("16", "held within -99 .. 99");
        OffForSecond x = new OffForSecond();
        Due.tellText(x, 1, "m");
        int[][] rows = {{MIN, -99}, {-100, -99}, {-99, -99}, {-98, -98}, {0, 0}, {98, 98}, {99, 99}, {100, 99}, {MAX, 99}};
        for (int[] each : rows) {
            due.is("m " + each[0], x.law(1, 0, each[0], 0), each[1]);
        }
    }

    private static void namesOfGain() {
        due.edge("16", "s 1, if SAFE, else 0, m MARGIN, o OUTS");
        OffForSecond x = new OffForSecond();
        x.pitch(0, 1);
        x.runner(0, 30);
        for (int pop = 124; pop <= 126; pop++) {
            x.set(1, pop);
            Due.tellText(x, 1, "s*50-7");
            due.is("s by MARGIN " + (pop - 125), x.go(0, 0), pop < 125 ? -7 : 43);
            Due.tellText(x, 1, "m*10");
            due.is("m by MARGIN " + (pop - 125), x.go(0, 0), 10 * (pop - 125));
        }
        Due.tellText(x, 1, "o*40+1");
        for (int outs = 0; outs <= 2; outs++) {
            x.set(3, outs);
            due.is("o", x.go(0, 0), 40 * outs + 1);
        }
        due.edge("16", "a AIR by KIND, w WET, o OUTS");
        Due.tellText(x, 0, "a+w*10+o*25");
        x.set(2, 9);
        due.is("a, w, o", x.pitchIs(0, 4), 45 + 90 + 50);
    }

    private static void gainWithoutText() {
        due.edge("16", "without a TEXT 25, if s is 1, else -50");
        OffForSecond x = new OffForSecond();
        due.is("1", x.law(1, 1, -9, 0), 25);
        due.is("0", x.law(1, 0, 9, 0), -50);
        due.is("2", x.law(1, 2, 9, 0), -50);
        due.is("-1", x.law(1, -1, 9, 0), -50);
        due.is("MIN", x.law(1, MIN, 9, 0), -50);
        due.is("MAX", x.law(1, MAX, 9, 0), -50);
    }

    private static void untell() {
        due.edge("15", "There is no TEXT of a USE any more: 1 if there was, else 0. BEYOND.");
        OffForSecond x = new OffForSecond();
        for (int use = 0; use < 2; use++) {
            due.is("there was none", x.untell(use), 0);
            Due.tellText(x, use, "o");
            due.is("there was", x.untell(use), 1);
            due.is("there is none any more", x.untell(use), 0);
        }
        int[] wrong = {-1, 2, MIN, MAX};
        for (int use : wrong) {
            due.is("use " + use, x.untell(use), Due.BEYOND);
        }
    }
}
