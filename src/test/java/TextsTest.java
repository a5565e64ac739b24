/** Promises 13 to 16: texts. */
public final class TextsTest {
    private static final Due due = new Due();

    public static void main(String[] args) {
        feed();
        text();
        faults();
        work();
        signs();
        untell();
        law();
        usesWithTexts();
        due.end("TextsTest");
    }

    private static void feed() {
        OffForSecond x = new OffForSecond();
        due.is("13: n 0", x.feed(0, 0), Due.BEYOND);
        due.is("13: n 9", x.feed(0, 9), Due.BEYOND);
        due.is("13: n -1", x.feed(0, -1), Due.BEYOND);
        due.is("13: two", x.feed(0x2B61L, 2), 2);
        due.is("13: one more of a longer word", x.feed(0x7777777777777777L, 1), 3);
        due.is("13: count", x.count(8), 3);
        due.is("13: the lowest first", x.text(0), 1);
        due.is("13: law of a+w", x.law(0, 30, 5, 0), 35);
        for (int i = 1; i <= 7; i++) {
            due.is("13: eight", x.feed(0x3131313131313131L, 8), 8 * i);
        }
        due.is("13: five are too many", x.feed(0, 5), Due.FULL);
        due.is("13: BEYOND ahead of FULL", x.feed(0, 9), Due.BEYOND);
        due.is("13: four", x.feed(0x31313131L, 4), 60);
        due.is("13: none more", x.feed(0, 1), Due.FULL);
        due.is("13: sixty", x.count(8), 60);
        due.is("13: its fault", x.text(0), -14);
        x.feed(0x2B302B302B302B31L, 8);
        x.feed(0x6F, 1);
        due.is("13: all eight bytes", x.text(0), 1);
        due.is("13: law of 1+0+0+0+o", x.law(0, 9, 9, 7), 8);
    }

    private static void text() {
        OffForSecond x = new OffForSecond();
        Due.feedAll(x, "a+1");
        due.is("14: use 2", x.text(2), Due.BEYOND);
        due.is("14: use -1", x.text(-1), Due.BEYOND);
        due.is("14: THE TAPE stays", x.count(8), 3);
        due.is("14: told", x.told(1), 2);
        due.is("14: use 0", x.text(0), 1);
        due.is("14: THE TAPE is empty", x.count(8), 0);
        due.is("14: given", x.law(0, 5, 0, 0), 6);
        due.is("14: a fault", Due.tellText(x, 0, "a+"), -12);
        due.is("14: THE TAPE is empty, too", x.count(8), 0);
        due.is("14: the one ahead stays", x.law(0, 5, 0, 0), 6);
        due.is("14: a fault is no ERROR", x.told(1), 2);
        due.is("14: nothing", x.text(0), -10);
        due.is("14: another one", Due.tellText(x, 0, "a+22"), 1);
        due.is("14: in place of the one ahead", x.law(0, 5, 0, 0), 27);
        due.is("14: the other USE has none", x.law(1, 1, 0, 0), 25);
        due.is("14: use 1", Due.tellText(x, 1, "s*3"), 1);
        due.is("14: it has", x.law(1, 2, 0, 0), 6);
        due.is("14: USE 0 keeps its own", x.law(0, 5, 0, 0), 27);
    }

    private static void faults() {
        String[] texts = {
            "", "s", "m", "+", "a+", "a++", "a a", "aa", "a1", "1a", "12345", "1234", "00012", "1234+12345",
            "a<b", "a<w<o", "a<w=o", "a<w>o", "a=w+1<2", "(a<w)<o", "a<w&w<o|o", "a<w&w<o<1",
            ")", "()", "(a", "(a)", "(a))", "a)", "(a+", "(a+(w)", "!", "!a", "!!!!!a", "!!!!!!", "((((((", "(((((a)))))",
            "!(!(!a))", "!(!(!!", "!(!(!(", "!a!", "!!!!!a*!!!!!w", "!!!!!a<!!!!!!", "(((((a)))))+(((((w)))))+((((((",
            "!(((!a)))+!!!!!o", "!((((a)))+!o)", "!((((a+!o))))", "!(a)a", "a|", "a|&", "a&b", "a%", "a%w", "a/0", "a*-1", "-1", "a--1", "A", "0", "a\u00e1", "a,w", "(1)2", "(a)1", "!1!", "(a)(w)"};
        int[] due0 = {
            0, 0, 0, 0, 2, 2, 1, 1, 1, 1, 4, -1, 4, 9,
            2, 3, 3, 3, 5, -1, -1, 7,
            0, 1, 2, -1, 3, 1, 3, 6, 1, -1, -1, 5, 5, -1,
            -1, 5, 5, 2, -1, 12, 29,
            -1, -1, 7, 4, 2, 2, 2, 2, -1, -1, 2, 0, 2, 0, -1, 1, 1, 3, 3, 2, 3};
        for (int i = 0; i < texts.length; i++) {
            OffForSecond x = new OffForSecond();
            due.is("14: '" + texts[i] + "'", Due.tellText(x, 0, texts[i]), due0[i] < 0 ? 1 : -10 - due0[i]);
        }
        for (String faulty : new String[] {"((((((", "!!!!!!", "1234", "12345", "a+", "(a<w"}) {
            for (int i = 0; i < texts.length; i++) {
                OffForSecond after = new OffForSecond();
                Due.tellText(after, 0, faulty);
                due.is("14: '" + texts[i] + "' after " + faulty, Due.tellText(after, 0, texts[i]), due0[i] < 0 ? 1 : -10 - due0[i]);
            }
        }
        OffForSecond x = new OffForSecond();
        due.is("14: NAMES of USE 1", Due.tellText(x, 1, "s+m+o"), 1);
        due.is("14: a is none of USE 1", Due.tellText(x, 1, "s+a"), -12);
        due.is("14: w is none of USE 1", Due.tellText(x, 1, "w"), -10);
        String sixty = "a+a+a+a+a+a+a+a+a+a+a+a+a+a+a+a+a+a+a+a+a+a+a+a+a+a+a+a+a+99";
        due.is("14: sixty bytes", Due.tellText(x, 0, sixty), 1);
        due.is("14: all are read", x.law(0, 1, 0, 0), 128);
        due.is("14: sixty, too early", Due.tellText(x, 0, sixty.substring(0, 58) + "9+"), -70);
        for (int b = 128; b < 256; b++) {
            x.feed(b, 1);
            due.is("14: byte " + b, x.text(0), -10);
        }
    }

    private static void gives(String text, int a, int b, int c, int want) {
        OffForSecond x = new OffForSecond();
        due.is("16: told " + text, Due.tellText(x, 0, text), 1);
        due.is("16: " + text + " of " + a + " " + b + " " + c, x.law(0, a, b, c), want);
    }

    private static void work() {
        gives("1+2*3", 0, 0, 0, 7);
        gives("(1+2)*3", 0, 0, 0, 9);
        gives("20-3-4", 0, 0, 0, 13);
        gives("100/5/2", 0, 0, 0, 10);
        gives("100/(5/2)", 0, 0, 0, 50);
        gives("17%10*3", 0, 0, 0, 21);
        gives("a-w-o", 9, 3, 2, 4);
        gives("100+a/2", -7, 0, 0, 97);
        gives("100+a%3", -7, 0, 0, 99);
        gives("7+a/w", 5, 0, 0, 7);
        gives("7+a%w", 5, 0, 0, 7);
        gives("a/w+1=a", Integer.MIN_VALUE, -1, 0, 0);
        gives("a/w=a", Integer.MIN_VALUE, -1, 0, 1);
        gives("5+a%w", Integer.MIN_VALUE, -1, 0, 5);
        gives("a+w", Integer.MAX_VALUE, 1, 0, 0);
        gives("a+w<0", Integer.MAX_VALUE, 1, 0, 1);
        gives("a*w+3", 65536, 65536, 0, 3);
        gives("a-w>0", Integer.MIN_VALUE, 1, 0, 1);
        gives("9999/100", 0, 0, 0, 99);
        gives("0007", 0, 0, 0, 7);
        gives("1|0&0", 0, 0, 0, 1);
        gives("(1|0)&0", 0, 0, 0, 0);
        gives("1<2&3", 0, 0, 0, 1);
        gives("2*3=5+1", 0, 0, 0, 1);
        gives("1<2+(3<2)*5", 0, 0, 0, 1);
        gives("(1<2)+(3>2)*5", 0, 0, 0, 6);
        gives("!a+2*!w", 0, 0, 0, 3);
        gives("!a*5", 3, 0, 0, 0);
        gives("!(a*5)", 0, 0, 0, 1);
        gives("!!a", 7, 0, 0, 1);
        gives("!a<1", 7, 0, 0, 1);
        gives("!12+3", 0, 0, 0, 3);
        gives("5&a|w", 0, 3, 0, 1);
        gives("0|0|0", 0, 0, 0, 0);
        gives("8&2&4", 0, 0, 0, 1);
        gives("2+1|0", 0, 0, 0, 1);
        gives("50-(2-(3-(4-(5-1))))", 0, 0, 0, 51);
    }

    private static void signs() {
        int[] some = {-2, 0, 1, 3};
        for (int a : some) {
            for (int w : some) {
                gives("a<w", a, w, 0, a < w ? 1 : 0);
                gives("a=w", a, w, 0, a == w ? 1 : 0);
                gives("a>w", a, w, 0, a > w ? 1 : 0);
                gives("a&w", a, w, 0, a != 0 && w != 0 ? 1 : 0);
                gives("a|w", a, w, 0, a != 0 || w != 0 ? 1 : 0);
                gives("9+a*w", a, w, 0, 9 + a * w);
            }
        }
    }

    private static void untell() {
        OffForSecond x = new OffForSecond();
        due.is("15: none yet", x.untell(0), 0);
        Due.tellText(x, 0, "1");
        Due.tellText(x, 1, "2");
        due.is("15: there was", x.untell(0), 1);
        due.is("15: none any more", x.untell(0), 0);
        due.is("15: as without", x.law(0, 44, 0, 0), 44);
        due.is("15: the other stays", x.law(1, 0, 0, 0), 2);
        due.is("15: the other goes", x.untell(1), 1);
        due.is("15: as without, too", x.law(1, 0, 0, 0), -50);
        due.is("15: use 2", x.untell(2), Due.BEYOND);
        due.is("15: use -1", x.untell(-1), Due.BEYOND);
        Due.tellText(x, 0, "7");
        due.is("15: told again", x.law(0, 0, 0, 0), 7);
    }

    private static void law() {
        OffForSecond x = new OffForSecond();
        due.is("16: a", x.law(0, 77, 5, 6), 77);
        due.is("16: a held above", x.law(0, 200, 0, 0), 199);
        due.is("16: a held below", x.law(0, -1, 0, 0), 0);
        due.is("16: s 1", x.law(1, 1, -5, 0), 25);
        due.is("16: s 0", x.law(1, 0, 5, 0), -50);
        due.is("16: s 2", x.law(1, 2, 5, 0), -50);
        due.is("16: s -1", x.law(1, -1, 5, 0), -50);
        due.is("16: use 2", x.law(2, 0, 0, 0), Due.BEYOND);
        due.is("16: use -1", x.law(-1, 0, 0, 0), Due.BEYOND);
        Due.tellText(x, 0, "a*100+w*10+o");
        due.is("16: a, w, o in order", x.law(0, 1, 2, 3), 123);
        due.is("16: held above", x.law(0, 2, 0, 0), 199);
        due.is("16: held below", x.law(0, 0, 0, -1), 0);
        Due.tellText(x, 1, "s*49+m*7+o");
        due.is("16: s, m, o in order", x.law(1, 1, 2, 3), 66);
        due.is("16: 99", x.law(1, 2, 0, 1), 99);
        due.is("16: held to 99", x.law(1, 2, 0, 2), 99);
        due.is("16: held to -99", x.law(1, -2, 0, -2), -99);
    }

    private static void usesWithTexts() {
        OffForSecond x = new OffForSecond();
        x.pitch(5, 1);
        x.pitch(41, 1);
        x.runner(20, 35);
        x.set(2, 3);
        x.set(3, 2);
        Due.tellText(x, 0, "a+w*10+o");
        due.is("16: AIR by its TEXT", x.pitchIs(0, 4), 82);
        due.is("16: AIR of SLOW by its TEXT", x.pitchIs(1, 4), 99);
        due.is("16: margin by it", x.margin(0, 0, 0), 100 + 82 + 130 - 335);
        Due.tellText(x, 0, "a-90");
        due.is("16: AIR held at 0", x.pitchIs(0, 4), 0);
        Due.tellText(x, 1, "m+o*2");
        x.go(0, 0);
        due.is("16: MEAN by GAIN's TEXT", x.go(0, 0), -99);
        x.untell(0);
        due.is("16: MEAN, held for each", x.go(0, 0), -51 - 34);
        due.is("16: MEAN below", x.go(0, 1), 2);
    }
}
