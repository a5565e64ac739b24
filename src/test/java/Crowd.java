/** An object that is full: nothing in it is as at first. */
final class Crowd {
    private Crowd() {
    }

    /** Six PITCHES, five RUNNERS (two SAFE, three OUT), both TEXTS, 60 bytes, 24 numbers; no setting is as at first. */
    static void in(OffForSecond x) {
        for (int i = 0; i < 6; i++) {
            x.pitch(10 * i + 9 - i, 9 - i);
        }
        for (int i = 0; i < 5; i++) {
            x.runner(95 + i, 60 - 12 * i);
        }
        Due.tellText(x, 0, "a+1");
        Due.tellText(x, 1, "m%90");
        x.set(0, 199);
        x.set(1, 150);
        x.set(2, 8);
        for (int i = 0; i < 5; i++) {
            x.steal(i, i);
            x.leads(i, 20 - i);
        }
        x.set(3, 1);
        fill(x, 0x2B612B312B39L, 20);
        x.seed(Integer.MIN_VALUE);
    }

    /** THE TAPE is full of such bytes, six and six; 24 numbers wait, LEADS first, if those go down from the first. */
    private static void fill(OffForSecond x, long bytes, int first) {
        for (int i = 0; i < 60; i += 6) {
            x.feed(bytes, 6);
        }
        for (int i = 0; i < 24; i++) {
            x.tell(first - i);
        }
    }

    /** The above is an IMAGE, and other things stand: SHEETS of each width but SHEET 3, THE TRACE, each ERROR told. */
    static void withAll(OffForSecond x) {
        in(x);
        x.image();
        x.check();
        x.text(0);
        for (int i = 0; i < 6; i++) {
            x.become(i, 64 - 10 * i);
            x.weighs(i, i + 2);
        }
        Due.tellText(x, 0, "a+w*2-o");
        Due.tellText(x, 1, "s*9-m%7");
        x.set(0, 150);
        for (int i = 0; i < 5; i++) {
            x.steal(i, 4 - i);
            x.leads(i, 9 - i);
        }
        fill(x, 0x3D282B6F2D77L, 9);
        layAndSay(x);
        x.seed(77);
    }

    private static void layAndSay(OffForSecond x) {
        int[] sizes = {24, 7, 0};
        for (int sheet = 0; sheet < 3; sheet++) {
            x.sheet(sheet, 8 << sheet, sizes[sheet]);
            for (int i = 0; i < sizes[sheet]; i++) {
                x.put(sheet, i, (3 * i + 1 + sheet) % 10);
            }
        }
        x.weighs(6, 0);
        x.body(30);
        x.sheet(3, 8, -1);
        x.pitch(0, 0);
        x.as(0, 5);
        x.voice(4, 3, 1);
        x.voice(2, 2, 1);
    }
}
