/** Promises 27 to 39: voices, sheets, images, what is told. */
public final class VoicesSheetsTest {
    private static final Due due = new Due();

    public static void main(String[] args) {
        voice();
        voiceWraps();
        parted();
        body();
        sheet();
        put();
        move();
        weightsBy();
        judge();
        imageAndRestore();
        imageLeavesOut();
        tellAndCheck();
        count();
        told();
        due.end("VoicesSheetsTest");
    }

    /** Six PITCHES 0 .. 5 of one KIND each, with m as told; so k is 0 .. 5. */
    private static OffForSecond withPitches(int... km) {
        OffForSecond x = new OffForSecond();
        for (int each : km) {
            x.pitch(each, 1);
        }
        return x;
    }

    private static void says(OffForSecond x, int pitch, int voice, int of, int want, int... bodies) {
        due.is("27: voice " + pitch + " " + voice + " " + of, x.voice(pitch, voice, of), want);
        due.is("27: BODIES", x.count(10), bodies.length);
        for (int i = 0; i < bodies.length; i++) {
            due.is("28: BODY " + i + " of voice " + pitch + " " + voice, x.body(i), bodies[i]);
        }
        due.is("28: no more", x.body(bodies.length), Due.NONE);
    }

    private static void voice() {
        OffForSecond x = withPitches(4, 17, 29, 36, 48, 57);
        says(x, 0, 0, 7, 7, 10);
        says(x, 0, 1, 7, 14, 11, 10);
        says(x, 0, 2, 7, 10, 12, 11, 10);
        says(x, 0, 3, -7, -1, 13);
        says(x, 1, 0, 7, 4, 20, 10);
        says(x, 1, 1, 7, 8, 11, 20, 10);
        says(x, 1, 2, 7, 1, 12, 11, 20, 10);
        says(x, 1, 3, 60, 10 - 4, 21, 13, 11, 20, 10);
        says(x, 2, 0, 7, 9, 10);
        says(x, 2, 1, 7, -18, 30, 11, 10);
        says(x, 2, 2, 7, -27, 12, 30, 11, 10);
        says(x, 2, 3, 70, 10, 13);
        says(x, 3, 2, -7, 2 * (-3 + 3) - 6, 40, 12, 11, 10);
        says(x, 3, 2, 8, 8, 40, 12, 11, 10);
        says(x, 4, 0, 7, 21, 50, 20, 10);
        says(x, 4, 1, 7, 42, 11, 50, 20, 10);
        says(x, 4, 2, 7, 34 ^ 4, 51, 12, 11, 50, 20, 10);
        says(x, 4, 3, 13, 3 + 2 * 3, 21, 13, 11, 50, 20, 10);
        says(x, 5, 0, 7, 12, 10);
        says(x, 5, 1, 7, -26, 60, 30, 11, 10);
        says(x, 5, 2, 7, -33, 12, 60, 30, 11, 10);
        x.become(3, 65);
        says(x, 3, 0, 7, 9, 70);
        says(x, 3, 1, 7, 23, 71, 11, 70);
        says(x, 3, 2, 7, 18, 12, 71, 11, 70);
        says(x, 3, 3, 7, 3, 13);
        due.is("27: voice 4", x.voice(0, 4, 0), Due.BEYOND);
        due.is("27: voice -1", x.voice(0, -1, 0), Due.BEYOND);
        due.is("27: pitch 6", x.voice(6, 0, 0), Due.BEYOND);
        due.is("27: pitch -1", x.voice(-1, 0, 0), Due.BEYOND);
        due.is("27: THE TRACE stays", x.count(10), 1);
        due.is("28: as it was", x.body(0), 13);
    }

    private static void voiceWraps() {
        OffForSecond x = withPitches(4, 10, 29, 36, 48, 57);
        due.is("27: x + k wraps", x.voice(1, 0, Integer.MAX_VALUE), Integer.MIN_VALUE - 4);
        due.is("27: * 2 wraps", x.voice(0, 1, Integer.MAX_VALUE), -2);
        due.is("27: by -1 wraps", x.voice(1, 3, Integer.MIN_VALUE), Integer.MIN_VALUE + 2 * (1 + 1 - 4));
        due.is("27: any number, no ERROR", x.voice(0, 0, -1000000001), -1000000001);
        due.is("27: x + 1 wraps", x.voice(5, 1, Integer.MAX_VALUE), 0 - 2 * (Integer.MIN_VALUE + 5));
        due.is("27: x by 2 is cut toward 0", x.voice(3, 2, -1), 2 * 3 - 6);
        due.is("27: not told", x.told(1), 0);
    }

    private static void parted() {
        OffForSecond x = withPitches(0, 11, 22, 33, 44, 55);
        for (int i = 0; i < 6; i++) {
            due.is("27: PARTED " + i, x.voice(i, 3, 9), Due.PARTED);
        }
        due.is("27: told", x.told(6), 6);
        x.become(0, 1);
        due.is("27: not any more", x.voice(0, 3, 9), 9);
        // of Curve: what it adds to super.parts(x) doesn't begin
        due.is("27: PARTED above", x.voice(4, 3, 9), Due.PARTED);
        due.is("28: as they began", x.count(10), 2);
        due.is("28: of Curve", x.body(0), 21);
        due.is("28: of Pitch", x.body(1), 13);
        due.is("27: whole again", x.voice(4, 0, 1), (1 + 4 - 4) * 3);
    }

    private static void body() {
        OffForSecond x = withPitches(48);
        due.is("28: none yet", x.body(0), Due.NONE);
        x.voice(0, 2, 1);
        due.is("28: the first", x.body(0), 51);
        due.is("28: i -1", x.body(-1), Due.NONE);
        due.is("28: i 6", x.body(6), Due.NONE);
        due.is("28: i 30", x.body(30), Due.NONE);
        for (int extreme : Due.EXTREMES) {
            due.is("28: i " + extreme, x.body(extreme), Due.NONE);
        }
        x.voice(0, 0, 1);
        due.is("28: of the latest", x.body(0), 50);
        due.is("28: of the latest alone", x.body(3), Due.NONE);
    }

    private static void sheet() {
        OffForSecond x = withPitches(0, 0, 0);
        int[] wrong = {-1, 1, 7, 9, 24, 33, 64};
        for (int bits : wrong) {
            due.is("29: bits " + bits, x.sheet(0, bits, 1), Due.BEYOND);
            due.is("29: bits ahead of STATE " + bits, x.sheet(0, bits, -1), Due.BEYOND);
        }
        due.is("29: sheet 4", x.sheet(4, 8, 1), Due.BEYOND);
        due.is("29: sheet -1", x.sheet(-1, 8, -1), Due.BEYOND);
        due.is("29: sheet 4, missing", x.sheet(4, 0, 1), Due.BEYOND);
        due.is("29: n -1", x.sheet(0, 8, -1), Due.STATE);
        due.is("29: n 25", x.sheet(0, 8, 25), Due.BEYOND);
        due.is("29: still missing", x.put(0, 0, 1), Due.NONE);
        for (int sheet = 0; sheet < 4; sheet++) {
            due.is("29: 24 numbers", x.sheet(sheet, 8 << (sheet % 3), 24), 1);
            due.is("29: the last", x.put(sheet, 23, 1), 1);
            due.is("29: no more", x.put(sheet, 24, 1), Due.BEYOND);
        }
        x.put(1, 0, 5);
        due.is("29: STATE changes nothing", x.sheet(1, 8, -1), Due.STATE);
        due.is("29: it has 16 bits still", x.move(1, 0, 0, 0, 1), Due.KIND);
        due.is("29: laid again", x.sheet(1, 32, 3), 1);
        due.is("29: all 0", x.weightsBy(1), 3);
        due.is("29: 0", x.pitchIs(0, 2), 0);
        due.is("29: missing, n doesn't matter", x.sheet(1, 0, -7), 1);
        due.is("29: missing, n doesn't matter, too", x.sheet(2, 0, 99), 1);
        due.is("29: it is missing", x.weightsBy(1), Due.NONE);
        due.is("29: they are missing", x.judge(2), Due.NONE);
    }

    private static void put() {
        OffForSecond x = withPitches(0);
        due.is("30: missing", x.put(0, 0, 0), Due.NONE);
        due.is("30: NONE ahead of BEYOND of i", x.put(0, -1, 0), Due.NONE);
        due.is("30: sheet 4", x.put(4, 0, 0), Due.BEYOND);
        due.is("30: sheet -1", x.put(-1, 0, 0), Due.BEYOND);
        x.sheet(0, 8, 2);
        x.sheet(1, 16, 2);
        x.sheet(2, 32, 2);
        due.is("30: i -1", x.put(0, -1, 0), Due.BEYOND);
        due.is("30: i 2", x.put(0, 2, 0), Due.BEYOND);
        for (int extreme : Due.EXTREMES) {
            due.is("30: i " + extreme, x.put(0, extreme, 0), Due.BEYOND);
        }
        int[][] weights = {{256 + 3, 1, 0, 0}, {65536 + 3, 1, 1, 0}, {-65536 + 3, 1, 1, 0}, {3, 1, 1, 1}, {-253, 1, 0, 0}, {-1, 0, 0, 0}, {10, 0, 0, 0}};
        for (int[] each : weights) {
            for (int sheet = 0; sheet < 3; sheet++) {
                x.weighs(0, 7);
                due.is("30: put " + each[0], x.put(sheet, 0, each[0]), 1);
                x.weightsBy(sheet);
                due.is("30: lowest bits of " + each[0] + " in SHEET " + sheet, x.pitchIs(0, 2), each[1 + sheet] == 1 ? 3 : 7);
            }
        }
        // numbers of 8 bits are 0 .. 255
        Due.tellText(x, 0, "150");
        x.put(0, 0, 150);
        due.is("30: 150 in 8 bits", x.judge(0), 1);
        x.put(0, 0, -106);
        due.is("30: -106 has the same 8 bits", x.judge(0), 1);
        x.put(1, 0, -106);
        due.is("30: not the same 16 bits", x.judge(1), 0);
    }

    private static void move() {
        OffForSecond x = withPitches(0, 0, 0, 0, 0, 0);
        due.is("31: missing", x.move(0, 0, 0, 0, 0), Due.NONE);
        x.sheet(0, 8, 6);
        due.is("31: the other is missing", x.move(0, 0, 1, 0, 0), Due.NONE);
        due.is("31: the one is missing", x.move(1, 0, 0, 0, 0), Due.NONE);
        due.is("31: NONE ahead of BEYOND of n", x.move(1, 0, 0, 0, -1), Due.NONE);
        due.is("31: sheet 4", x.move(4, 0, 0, 0, 0), Due.BEYOND);
        due.is("31: other 4 ahead of NONE", x.move(1, 0, 4, 0, 0), Due.BEYOND);
        due.is("31: other -1", x.move(0, 0, -1, 0, 0), Due.BEYOND);
        x.sheet(1, 16, 6);
        x.sheet(2, 8, 3);
        due.is("31: unlike bits", x.move(0, 0, 1, 0, 1), Due.KIND);
        due.is("31: KIND ahead of BEYOND of n", x.move(0, 0, 1, 0, -1), Due.KIND);
        for (int i = 0; i < 6; i++) {
            x.put(0, i, i + 1);
        }
        x.put(2, 0, 7);
        x.put(2, 1, 8);
        x.put(2, 2, 9);
        int[][] beyond = {{-1, 0, 1}, {0, -1, 1}, {0, 0, -1}, {0, 0, 4}, {4, 0, 3}, {0, 1, 3}, {7, 0, 0}, {0, 4, 0},
            {Integer.MAX_VALUE, 0, 1}, {0, Integer.MAX_VALUE, 1}, {1, 1, Integer.MAX_VALUE}, {0, 0, Integer.MIN_VALUE}, {Integer.MIN_VALUE, 0, Integer.MIN_VALUE}};
        for (int[] each : beyond) {
            due.is("31: they don't stand there", x.move(0, each[0], 2, each[1], each[2]), Due.BEYOND);
        }
        due.is("31: nothing came", x.weightsBy(2), 3);
        due.is("31: 7 is there", x.pitchIs(0, 2), 7);
        due.is("31: none at the end", x.move(0, 6, 2, 3, 0), 0);
        due.is("31: two come", x.move(0, 4, 2, 1, 2), 2);
        holds(x, 2, 7, 5, 6);
        due.is("31: up within the same", x.move(0, 0, 0, 2, 4), 4);
        holds(x, 0, 1, 2, 1, 2, 3, 4);
        due.is("31: down within the same", x.move(0, 1, 0, 0, 5), 5);
        holds(x, 0, 2, 1, 2, 3, 4, 4);
        due.is("31: all of one", x.move(2, 0, 0, 3, 3), 3);
        holds(x, 0, 2, 1, 2, 7, 5, 6);
        holds(x, 2, 7, 5, 6);
    }

    private static void holds(OffForSecond x, int sheet, int... numbers) {
        due.is("31: numbers", x.weightsBy(sheet), numbers.length);
        for (int i = 0; i < numbers.length; i++) {
            due.is("31: number " + i, x.pitchIs(i, 2), numbers[i]);
        }
    }

    private static void weightsBy() {
        OffForSecond x = withPitches(0, 0, 0);
        due.is("32: sheet 4", x.weightsBy(4), Due.BEYOND);
        due.is("32: sheet -1", x.weightsBy(-1), Due.BEYOND);
        due.is("32: missing", x.weightsBy(0), Due.NONE);
        x.sheet(0, 16, 4);
        int[] numbers = {9, 0, 10, 5};
        for (int i = 0; i < 4; i++) {
            x.put(0, i, numbers[i]);
        }
        due.is("32: up to 10", x.weightsBy(0), 2);
        due.is("32: 9", x.pitchIs(0, 2), 9);
        due.is("32: 0", x.pitchIs(1, 2), 0);
        due.is("32: 1 still", x.pitchIs(2, 2), 1);
        x.put(0, 2, 4);
        due.is("32: up to where there is no PITCH", x.weightsBy(0), 3);
        due.is("32: 4", x.pitchIs(2, 2), 4);
        due.is("32: no ERROR then", x.told(1), 2);
        x.sheet(0, 32, 2);
        x.put(0, 1, -1);
        due.is("32: up to -1", x.weightsBy(0), 1);
    }

    private static void judge() {
        OffForSecond x = withPitches(5, 36, 63);
        due.is("33: sheet 4", x.judge(4), Due.BEYOND);
        due.is("33: sheet -1", x.judge(-1), Due.BEYOND);
        due.is("33: missing", x.judge(0), Due.NONE);
        x.sheet(0, 8, 4);
        due.is("33: none", x.judge(0), 0);
        x.put(0, 0, 50);
        x.put(0, 2, 48);
        due.is("33: one, from the first on", x.judge(0), 1);
        x.put(0, 1, 33);
        due.is("33: three", x.judge(0), 3);
        x.runner(0, 1);
        x.steal(0, 2);
        due.is("33: AIR now", x.judge(0), 2);
        x.sheet(0, 8, 1);
        x.put(0, 0, 50);
        due.is("33: all of them", x.judge(0), 1);
        x.sheet(0, 8, 0);
        due.is("33: no numbers", x.judge(0), 0);
    }

    private static void imageAndRestore() {
        OffForSecond x = withPitches(5, 36);
        due.is("35: none", x.restore(), Due.NONE);
        x.runner(99, 60);
        x.leads(0, 7);
        x.set(0, 10);
        x.set(1, 20);
        x.set(2, 3);
        x.set(3, 2);
        Due.tellText(x, 0, "a+1");
        Due.tellText(x, 1, "m");
        x.steal(0, 1);
        x.leads(0, 7);
        x.seed(55);
        x.feed(0x61, 1);
        x.tell(7);
        due.is("34: once", x.image(), 1);
        x.weighs(0, 9);
        x.become(1, 44);
        x.pitch(0, 0);
        x.runner(0, 1);
        x.set(0, 100);
        x.set(1, 130);
        x.set(2, 0);
        x.steal(0, 0);
        x.steal(0, 0);
        x.steal(0, 0);
        x.steal(0, 0);
        x.check();
        x.tell(9);
        x.text(0);
        Due.tellText(x, 0, "199");
        x.feed(0x77, 1);
        x.untell(1);
        x.leads(0, 20);
        x.set(1, 200);
        x.set(0, 200);
        due.is("35: SAFE for once", x.steal(0, 0), 1);
        x.loose(3);
        for (int i = 0; i < 2; i++) {
            due.is("35: INNINGS", x.restore(), 1);
            due.is("35: PITCHES", x.count(0), 2);
            due.is("35: WEIGHT", x.pitchIs(0, 2), 1);
            due.is("35: KIND", x.pitchIs(1, 0), 3);
            due.is("35: m", x.pitchIs(1, 1), 6);
            due.is("35: THROWN", x.pitchIs(1, 3), 1);
            due.is("35: THROWN of the other", x.pitchIs(0, 3), 0);
            due.is("35: RUNNERS", x.count(1), 1);
            due.is("35: LEAD", x.runnerIs(0, 2), 7);
            due.is("35: CAUGHT", x.runnerIs(0, 4), 1);
            due.is("35: STOLEN", x.runnerIs(0, 3), 0);
            due.is("35: OUTS", x.count(2), 0);
            due.is("35: WORTH", x.count(4), -99);
            due.is("35: LIFT", x.count(5), 10);
            due.is("35: POP", x.count(6), 20);
            due.is("35: WET", x.count(7), 3);
            due.is("35: bytes", x.count(8), 1);
            due.is("35: waiting", x.count(9), 1);
            due.is("35: z", x.count(11), 55);
            due.is("35: TEXT 0", x.law(0, 5, 0, 0), 6);
            due.is("35: TEXT 1", x.law(1, 5, 6, 0), 6);
            due.is("35: it waits as it was", x.check(), 0);
            due.is("35: THE TAPE as it was", x.text(0), 1);
            due.is("35: that TEXT", x.law(0, 5, 0, 0), 5);
            x.leads(0, 3);
            x.runner(1, 1);
            x.pitch(7, 7);
        }
        due.is("34: twice", x.image(), 2);
        x.leads(0, 11);
        x.pitch(8, 8);
        due.is("35: the one ahead is gone", x.restore(), 1);
        due.is("35: LEAD of the second", x.runnerIs(0, 2), 3);
        due.is("35: PITCHES of the second", x.count(0), 3);
    }

    private static void imageLeavesOut() {
        OffForSecond x = withPitches(5);
        x.sheet(0, 8, 1);
        x.put(0, 0, 4);
        x.voice(0, 1, 1);
        x.image();
        x.put(0, 0, 6);
        x.sheet(1, 16, 2);
        x.voice(0, 0, 1);
        x.pitch(-1, 0);
        x.image();
        x.image();
        due.is("35: done", x.restore(), 0);
        due.is("35: SHEETS stay", x.weightsBy(0), 1);
        due.is("35: as put", x.pitchIs(0, 2), 6);
        due.is("35: SHEET 1 stays", x.put(1, 1, 0), 1);
        due.is("35: THE TRACE stays", x.count(10), 1);
        due.is("35: told stays", x.told(1), 1);
        due.is("34: how often stays", x.image(), 4);
    }

    private static void tellAndCheck() {
        OffForSecond x = new OffForSecond();
        due.is("37: none wait", x.check(), 0);
        for (int i = 1; i <= 24; i++) {
            due.is("36: " + i, x.tell(-i), i);
        }
        due.is("36: 24 wait", x.tell(0), Due.FULL);
        due.is("36: told", x.told(4), 1);
        due.is("37: there is no RUNNER", x.check(), 1);
        due.is("37: none wait any more", x.count(9), 0);
        x.runner(0, 1);
        x.runner(0, 2);
        x.leads(0, 3);
        x.leads(1, 4);
        x.tell(3);
        due.is("37: one of two", x.check(), 0);
        x.tell(3);
        x.tell(4);
        due.is("37: both", x.check(), 0);
        x.tell(3);
        x.tell(4);
        x.tell(0);
        due.is("37: no third RUNNER", x.check(), 3);
        x.tell(3);
        x.tell(5);
        x.tell(0);
        due.is("37: the first that isn't so", x.check(), 2);
        x.tell(4);
        x.tell(4);
        due.is("37: the very first", x.check(), 1);
        due.is("36: one again", x.tell(0), 1);
    }

    private static void count() {
        OffForSecond x = withPitches(60, 0);
        x.runner(99, 60);
        x.set(0, 11);
        x.set(1, 12);
        x.set(2, 4);
        for (int i = 0; i < 7; i++) {
            x.steal(0, 0);
        }
        x.feed(0, 5);
        x.tell(1);
        x.tell(1);
        x.voice(0, 2, 0);
        x.seed(-9);
        int[] want = {2, 1, 1, 2, -350, 11, 12, 4, 5, 2, 4, -9};
        for (int i = 0; i < want.length; i++) {
            due.is("38: count " + i, x.count(i), want[i]);
        }
        due.is("38: what 12", x.count(12), Due.BEYOND);
        due.is("38: what -1", x.count(-1), Due.BEYOND);
        for (int extreme : Due.EXTREMES) {
            due.is("38: what " + extreme, x.count(extreme), Due.BEYOND);
        }
    }

    private static void told() {
        OffForSecond x = withPitches(0, 0, 0, 0, 0, 0);
        due.is("39: k 0", x.told(0), Due.BEYOND);
        due.is("39: k 7", x.told(7), Due.BEYOND);
        due.is("39: k -1", x.told(-1), Due.BEYOND);
        for (int extreme : Due.EXTREMES) {
            due.is("39: k " + extreme, x.told(extreme), Due.BEYOND);
        }
        due.is("39: counted, too", x.told(1), 8);
        x.restore();
        x.body(0);
        due.is("39: NONE", x.told(2), 2);
        x.runner(0, 1);
        x.sheet(0, 8, -1);
        due.is("39: STATE", x.told(3), 1);
        x.pitch(0, 0);
        x.pitch(0, 0);
        x.pitch(0, 0);
        due.is("39: FULL", x.told(4), 3);
        x.as(0, 6);
        due.is("39: KIND", x.told(5), 1);
        x.voice(0, 3, 0);
        due.is("39: PARTED", x.told(6), 1);
        due.is("39: BEYOND still", x.told(1), 8);
    }
}
