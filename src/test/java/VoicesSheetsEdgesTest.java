/** The sentences of paragraph 4 and of promises 27 to 39 that name a boundary, each with a test of its own. */
public final class VoicesSheetsEdgesTest {
    private static final Due due = new Due();
    private static final int MIN = Integer.MIN_VALUE;
    private static final int MAX = Integer.MAX_VALUE;

    public static void main(String[] args) {
        voiceNumbers();
        voicesWrap();
        voicesAreCut();
        spitHisses();
        partedByEach();
        partedLeavesTrace();
        nextKindAbove();
        traceOfLatest();
        tracePlaces();
        fourSheets();
        threeWidths();
        atMost24();
        belowNothing();
        missing();
        laidAgain();
        putPlaces();
        putLowestBits();
        moveSheets();
        moveMissing();
        moveUnlike();
        movePlaces();
        moveAsTheyWere();
        weightsUpTo();
        weightsWithoutPitch();
        judgeFromFirst();
        judgeWithoutPitch();
        imageHowOften();
        imageOfNothing();
        imageOfFull();
        imageInPlace();
        imageLeavesOut();
        restoreNone();
        tellFull();
        tellAnyNumber();
        checkPlaces();
        checkEmpties();
        countWhats();
        countAnyNumber();
        toldKs();
        toldCountsItself();
        due.end("VoicesSheetsEdgesTest");
    }

    private static OffForSecond withPitches(int... km) {
        OffForSecond x = new OffForSecond();
        for (int each : km) {
            x.pitch(each, 1);
        }
        return x;
    }

    private static void traced(OffForSecond x, int... bodies) {
        due.is("BODIES", x.count(10), bodies.length);
        for (int i = 0; i < bodies.length; i++) {
            due.is("BODY " + i, x.body(i), bodies[i]);
        }
        due.is("no BODY more", x.body(bodies.length), Due.NONE);
        due.is("none ahead of the first", x.body(-1), Due.NONE);
    }

    private static void voiceNumbers() {
        due.edge("27", "0 hisses, 1 drops, 2 thuds, 3 parts");
        OffForSecond x = withPitches(2);
        int[] wrong = {-1, 4, MIN, MAX};
        for (int voice : wrong) {
            due.is("voice " + voice, x.voice(0, voice, 3), Due.BEYOND);
        }
        int[] said = {3, 6, 4, 1};
        for (int voice = 0; voice < 4; voice++) {
            due.is("voice " + voice, x.voice(0, voice, 3), said[voice]);
        }
        due.is("no PITCH 1", x.voice(1, 0, 3), Due.BEYOND);
        due.is("no PITCH -1", x.voice(-1, 0, 3), Due.BEYOND);
    }

    private static void voicesWrap() {
        due.edge("27", "with a number x (ints that wrap); k is the number");
        OffForSecond x = withPitches(9, 10, 20, 30, 40, 59);
        due.is("x + k", x.voice(5, 0, MAX - 4), MIN);
        due.is("x + k, not yet", x.voice(5, 0, MAX - 5), MAX);
        due.is("* 2", x.voice(0, 1, 1 << 30), MIN);
        due.is("* 2, below", x.voice(0, 1, (-1 << 30) - 1), MAX - 1);
        due.is("- m", x.voice(0, 2, 1 << 30), MAX - 8);
        due.is("- 4", x.voice(1, 0, MIN), MAX - 2);
        due.is("0 -", x.voice(2, 1, (1 << 30) - 2), MIN);
        due.is("* 3", x.voice(4, 0, MAX), 3 * (MAX - 0));
        due.is("x + 1", x.voice(5, 1, MAX), -2 * (MIN + 5));
        due.is("super.parts(x) +", x.voice(1, 3, MIN), MAX - 3);
        due.is("x by -1", x.voice(1, 3, MIN + 1), MAX - 4);
        due.is("any number, no ERROR", x.voice(0, 0, Due.PARTED), Due.PARTED);
        for (int k = 1; k <= 6; k++) {
            due.is("no ERROR " + k, x.told(k), 0);
        }
    }

    private static void voicesAreCut() {
        due.edge("27", "parts: x by (m - k), cut");
        OffForSecond x = withPitches(2, 3, 9, 30, 44, 5);
        int[][] rows = {{0, 7, 3}, {0, -7, -3}, {0, 1, 0}, {0, -1, 0}, {1, MIN, MIN / 2}, {2, -6, 0}, {2, -7, -1}, {3, -2, 0}, {3, 3, -1}, {3, -3, 1}, {3, MIN, MIN / -3}};
        for (int[] each : rows) {
            due.is("PITCH " + each[0] + " parts " + each[1], x.voice(each[0], 3, each[1]), each[2]);
        }
        due.edge("27", "thuds: super.thuds(x / 2)");
        int[][] halves = {{0, 0}, {1, 0}, {-1, 0}, {2, 1}, {-2, -1}, {3, 1}, {-3, -1}, {MIN, MIN / 2}, {MAX, MAX / 2}};
        for (int[] each : halves) {
            due.is("WIDE thuds " + each[0], x.voice(3, 2, each[0]), (each[1] + 3) * 2);
        }
    }

    private static void spitHisses() {
        due.edge("27", "70 hisses: 9.");
        OffForSecond x = withPitches(69);
        int[] some = {MIN, -1, 0, 9, MAX};
        for (int of : some) {
            due.is("hisses " + of, x.voice(0, 0, of), 9);
            due.is("drops " + of, x.voice(0, 1, of), 27);
            due.is("thuds " + of, x.voice(0, 2, of), 18);
        }
    }

    private static void partedByEach() {
        due.edge("27", "(PARTED if that is 0; that is all that voice() answers then)");
        int[] hissesOfNone = {0, -4, 0, 0, -12, 0, 9};
        int[] by = {1, 1, 1, 1, 3, 1, 0};
        for (int kind = 0; kind < 7; kind++) {
            OffForSecond x = new OffForSecond();
            for (int k = 0; k < 6; k++) {
                x.pitch(10 * kind + k, 1);
                due.is("KIND " + kind + ", m and k " + k, x.voice(k, 3, 77), Due.PARTED);
                due.is("told", x.told(6), k + 1);
                due.is("other VOICES are said", x.voice(k, 0, 0), hissesOfNone[kind] + by[kind] * k);
                x.become(k, 10 * kind + k + 1);
                int more = kind == 1 ? 2 * (1 + k - 4) : kind == 4 ? 2 * 3 * (1 + k - 4) : 0;
                due.is("KIND " + kind + ", m one above k", x.voice(k, 3, 77), 77 + more);
                if (k > 0) {
                    x.become(k, 10 * kind + k - 1);
                    due.is("KIND " + kind + ", m one below k", x.voice(k, 3, 77), -77 + more);
                }
            }
        }
    }

    private static void partedLeavesTrace() {
        due.edge("28", "THE TRACE: the numbers of BODIES of the latest voice(), as they began");
        OffForSecond x = withPitches(0, 11, 42);
        x.voice(0, 2, 1);
        due.is("Pitch", x.voice(0, 3, 1), Due.PARTED);
        traced(x, 13);
        due.is("Curve", x.voice(1, 3, 1), Due.PARTED);
        traced(x, 21, 13);
        due.is("Slow", x.voice(2, 3, 1), Due.PARTED);
        traced(x, 21, 13);
        due.is("one that is not said at all", x.voice(2, 4, 1), Due.BEYOND);
        traced(x, 21, 13);
    }

    private static void nextKindAbove() {
        due.edge("27", "hisses(..) is the BODY of its KIND, or of the next KIND above that has one");
        OffForSecond x = withPitches(2);
        int[][] first = {{10, 11, 12, 13}, {20, 11, 12, 21}, {10, 30, 12, 13}, {10, 11, 40, 13}, {50, 11, 51, 21}, {10, 60, 12, 13}, {70, 71, 12, 13}};
        for (int kind = 0; kind < 7; kind++) {
            x.become(0, 10 * kind + 2);
            for (int voice = 0; voice < 4; voice++) {
                x.voice(0, voice, 4);
                due.is("the first BODY of KIND " + kind + ", VOICE " + voice, x.body(0), first[kind][voice]);
            }
        }
        due.edge("27", "51 thuds: super.thuds(x) ^ k.");
        OffForSecond slow = withPitches(0, 0, 0, 41, 40, 40);
        due.is("5 of both", slow.voice(3, 2, 1), ((1 + 3 - 4) * 6 - 1) ^ 3);
        due.is("bits of both", slow.voice(5, 2, 1), 12 ^ 5);
        due.is("no bits", slow.voice(4, 2, -1), -6 ^ 4);
        due.edge("27", "super.hisses(..) that from the KIND above the BODY's on");
        x.become(0, 42);
        x.voice(0, 2, 4);
        traced(x, 51, 12, 11, 50, 20, 10);
        x.become(0, 52);
        x.voice(0, 2, 4);
        traced(x, 12, 60, 30, 11, 10);
        x.become(0, 32);
        x.voice(0, 2, 4);
        traced(x, 40, 12, 11, 10);
        x.become(0, 62);
        x.voice(0, 2, 4);
        traced(x, 12, 71, 11, 70);
    }

    private static void traceOfLatest() {
        due.edge("28", "as they began (what stands left is worked out first), the first 30");
        OffForSecond x = withPitches(49);
        traced(x);
        x.voice(0, 3, 1);
        traced(x, 21, 13, 11, 50, 20, 10);
        x.become(0, 9);
        x.voice(0, 0, 1);
        traced(x, 10);
        // no VOICE has more than six BODIES: 30 can't be asked for
        due.is("none of the voice() ahead", x.body(5), Due.NONE);
    }

    private static void tracePlaces() {
        due.edge("28", "THE TRACE's i-th. NONE: there is none such.");
        OffForSecond x = withPitches(9);
        due.is("none yet", x.body(0), Due.NONE);
        x.voice(0, 2, 1);
        int[] wrong = {-1, 3, 4, 29, 30, MIN, MAX};
        for (int i : wrong) {
            due.is("i " + i, x.body(i), Due.NONE);
        }
        due.is("the first", x.body(0), 12);
        due.is("the last", x.body(2), 10);
        due.is("told", x.told(2), 8);
    }

    private static void fourSheets() {
        due.edge("29", "SHEETS 0 .. 3 are rows of 8, 16, 32 bits, at most 24 numbers, or missing (as at first)");
        OffForSecond x = new OffForSecond();
        int[] wrong = {-1, 4, MIN, MAX};
        for (int sheet : wrong) {
            due.is("no SHEET " + sheet, x.sheet(sheet, 8, 1), Due.BEYOND);
            due.is("nor to make missing, " + sheet, x.sheet(sheet, 0, 1), Due.BEYOND);
            due.is("nor to put, " + sheet, x.put(sheet, 0, 1), Due.BEYOND);
            due.is("nor to move, " + sheet, x.move(sheet, 0, 0, 0, 0), Due.BEYOND);
            due.is("nor to move to, " + sheet, x.move(0, 0, sheet, 0, 0), Due.BEYOND);
            due.is("nor WEIGHTS, " + sheet, x.weightsBy(sheet), Due.BEYOND);
            due.is("nor AIR, " + sheet, x.judge(sheet), Due.BEYOND);
        }
        for (int sheet = 0; sheet < 4; sheet++) {
            due.is("missing at first, to put", x.put(sheet, 0, 1), Due.NONE);
            due.is("missing at first, WEIGHTS", x.weightsBy(sheet), Due.NONE);
            due.is("missing at first, AIR", x.judge(sheet), Due.NONE);
            due.is("missing at first, to move", x.move(sheet, 0, sheet, 0, 0), Due.NONE);
            due.is("laid", x.sheet(sheet, 8, 1), 1);
            due.is("there", x.put(sheet, 0, 1), 1);
        }
    }

    private static void threeWidths() {
        due.edge("29", "of so many bits (8, 16, 32; 0: it is missing, n doesn't matter)");
        OffForSecond x = new OffForSecond();
        for (int bits = -2; bits <= 70; bits++) {
            boolean right = bits == 0 || bits == 8 || bits == 16 || bits == 32;
            due.is(bits + " bits", x.sheet(0, bits, 1), right ? 1 : Due.BEYOND);
            due.is("the SHEET after " + bits, x.put(0, 0, 1), bits < 8 ? Due.NONE : 1);
        }
        due.is("MIN", x.sheet(0, MIN, 1), Due.BEYOND);
        due.is("MAX", x.sheet(0, MAX, 1), Due.BEYOND);
        int[] ns = {-1, 0, 24, 25, MIN, MAX};
        for (int n : ns) {
            due.is("missing, n " + n, x.sheet(0, 0, n), 1);
            due.is("it is missing", x.put(0, 0, 1), Due.NONE);
        }
    }

    private static void atMost24() {
        due.edge("29", "at most 24 numbers");
        for (int bits = 8; bits <= 32; bits *= 2) {
            OffForSecond x = new OffForSecond();
            due.is("25 numbers of " + bits, x.sheet(3, bits, 25), Due.BEYOND);
            due.is("MAX numbers of " + bits, x.sheet(3, bits, MAX), Due.BEYOND);
            due.is("none came", x.put(3, 0, 0), Due.NONE);
            due.is("24 numbers of " + bits, x.sheet(3, bits, 24), 1);
            due.is("the last", x.put(3, 23, 1), 1);
            due.is("one more", x.put(3, 24, 1), Due.BEYOND);
            due.is("0 numbers of " + bits, x.sheet(3, bits, 0), 1);
            due.is("no first", x.put(3, 0, 1), Due.BEYOND);
            due.is("no numbers to move", x.move(3, 0, 3, 0, 0), 0);
            due.is("1 number of " + bits, x.sheet(3, bits, 1), 1);
            due.is("the first", x.put(3, 0, 1), 1);
            due.is("no second", x.put(3, 1, 1), Due.BEYOND);
        }
    }

    private static void belowNothing() {
        due.edge("29", "STATE: n is below 0 (ahead of BEYOND of n).");
        OffForSecond x = new OffForSecond();
        x.sheet(0, 16, 2);
        int[] below = {-1, -24, MIN};
        for (int n : below) {
            due.is("n " + n, x.sheet(0, 8, n), Due.STATE);
            due.is("n " + n + " of a missing one", x.sheet(1, 32, n), Due.STATE);
            due.is("no SHEET 4 is asked first", x.sheet(4, 8, n), Due.BEYOND);
            due.is("no 24 bits is asked first", x.sheet(0, 24, n), Due.BEYOND);
        }
        due.is("it stands as it was", x.put(0, 1, 1), 1);
        due.is("it is still missing", x.put(1, 0, 1), Due.NONE);
    }

    private static void missing() {
        due.edge("30", "BEYOND: no such SHEET. NONE: it is missing. BEYOND: no such number.");
        OffForSecond x = new OffForSecond();
        due.is("no SHEET 4, no number", x.put(4, -1, 0), Due.BEYOND);
        due.is("missing, no number", x.put(3, -1, 0), Due.NONE);
        x.sheet(3, 8, 2);
        due.is("no number", x.put(3, -1, 0), Due.BEYOND);
        x.sheet(3, 0, 2);
        due.is("missing again", x.put(3, 0, 0), Due.NONE);
    }

    private static void laidAgain() {
        due.edge("29", "A SHEET has n numbers, all 0");
        OffForSecond x = withPitches(0, 0, 0, 0, 0, 0);
        x.sheet(0, 8, 6);
        for (int i = 0; i < 6; i++) {
            x.put(0, i, 9);
        }
        x.sheet(0, 8, 3);
        x.sheet(0, 8, 6);
        due.is("six", x.weightsBy(0), 6);
        for (int i = 0; i < 6; i++) {
            due.is("all 0", x.pitchIs(i, 2), 0);
        }
        x.put(0, 5, 9);
        x.sheet(0, 0, 6);
        x.sheet(0, 32, 6);
        x.weightsBy(0);
        due.is("all 0 after it was missing", x.pitchIs(5, 2), 0);
    }

    private static void putPlaces() {
        due.edge("30", "Number i of a SHEET becomes v");
        OffForSecond x = withPitches(0, 0, 0);
        for (int sheet = 0; sheet < 4; sheet++) {
            x.sheet(sheet, 8, 3);
            int[] wrong = {-1, 3, 24, MIN, MAX};
            for (int i : wrong) {
                due.is("no number " + i, x.put(sheet, i, 5), Due.BEYOND);
            }
        }
        for (int sheet = 0; sheet < 4; sheet++) {
            due.is("the first", x.put(sheet, 0, sheet), 1);
            due.is("the last", x.put(sheet, 2, 9 - sheet), 1);
        }
        for (int sheet = 0; sheet < 4; sheet++) {
            due.is("three", x.weightsBy(sheet), 3);
            due.is("the first is so", x.pitchIs(0, 2), sheet);
            due.is("the second is 0", x.pitchIs(1, 2), 0);
            due.is("the last is so", x.pitchIs(2, 2), 9 - sheet);
        }
    }

    private static void putLowestBits() {
        due.edge("30", "becomes v (its lowest bits): 1.");
        OffForSecond x = withPitches(0);
        x.sheet(0, 8, 1);
        x.sheet(1, 16, 1);
        x.sheet(2, 32, 1);
        int[] becomes = {0, 1, 7, 100, 127};
        int[] above = {0, 1 << 8, -1 << 8, 1 << 15, 1 << 16, -1 << 16, 1 << 24, MIN};
        for (int v : becomes) {
            Due.tellText(x, 0, new StringBuilder().append(v).toString());
            for (int more : above) {
                due.is("8 bits", x.put(0, 0, v + more), 1);
                due.is("16 bits", x.put(1, 0, v + more), 1);
                due.is("32 bits", x.put(2, 0, v + more), 1);
                due.is(v + " and " + more + " in 8 bits", x.judge(0), 1);
                due.is(v + " and " + more + " in 16 bits", x.judge(1), (more & 0xFFFF) == 0 ? 1 : 0);
                due.is(v + " and " + more + " in 32 bits", x.judge(2), more == 0 ? 1 : 0);
            }
        }
    }

    private static OffForSecond withSheets() {
        OffForSecond x = withPitches(0, 0, 0, 0, 0, 0);
        x.sheet(0, 8, 6);
        x.sheet(1, 8, 3);
        x.sheet(2, 16, 6);
        for (int i = 0; i < 6; i++) {
            x.put(0, i, i + 1);
            x.put(2, i, 9);
        }
        for (int i = 0; i < 3; i++) {
            x.put(1, i, 7 + i);
        }
        return x;
    }

    private static void holds(OffForSecond x, int sheet, int... numbers) {
        due.is("numbers of SHEET " + sheet, x.weightsBy(sheet), numbers.length);
        for (int i = 0; i < numbers.length; i++) {
            due.is("number " + i + " of SHEET " + sheet, x.pitchIs(i, 2), numbers[i]);
        }
    }

    private static void moveSheets() {
        due.edge("31", "BEYOND: no such SHEET. NONE: one is missing.");
        OffForSecond x = withSheets();
        int[] wrong = {-1, 4, MIN, MAX};
        for (int sheet : wrong) {
            due.is("one " + sheet, x.move(sheet, 0, 0, 0, 1), Due.BEYOND);
            due.is("other " + sheet, x.move(0, 0, sheet, 0, 1), Due.BEYOND);
            due.is("one " + sheet + ", the other is missing", x.move(sheet, 0, 3, 0, 1), Due.BEYOND);
            due.is("the one is missing, other " + sheet, x.move(3, 0, sheet, 0, 1), Due.BEYOND);
        }
    }

    private static void moveMissing() {
        due.edge("31", "NONE: one is missing. KIND: they are of unlike bits.");
        OffForSecond x = withSheets();
        due.is("the one", x.move(3, 0, 0, 0, 1), Due.NONE);
        due.is("the other", x.move(0, 0, 3, 0, 1), Due.NONE);
        due.is("both", x.move(3, 0, 3, 0, 1), Due.NONE);
        due.is("none of nothing", x.move(3, 0, 3, 0, 0), Due.NONE);
        due.is("places are asked later", x.move(0, -1, 3, 99, -1), Due.NONE);
    }

    private static void moveUnlike() {
        due.edge("31", "KIND: they are of unlike bits. BEYOND: n, i, or j is below 0, or they don't stand there.");
        OffForSecond x = withSheets();
        due.is("8 to 16", x.move(0, 0, 2, 0, 1), Due.KIND);
        due.is("16 to 8", x.move(2, 0, 0, 0, 1), Due.KIND);
        due.is("none of them", x.move(0, 0, 2, 0, 0), Due.KIND);
        due.is("places are asked later", x.move(0, -1, 2, 99, -1), Due.KIND);
        x.sheet(3, 32, 6);
        due.is("8 to 32", x.move(0, 0, 3, 0, 1), Due.KIND);
        due.is("32 to 16", x.move(3, 0, 2, 0, 1), Due.KIND);
        holds(x, 2, 9, 9, 9, 9, 9, 9);
        x.sheet(3, 16, 6);
        due.is("16 to 16", x.move(3, 0, 2, 0, 1), 1);
        holds(x, 2, 0, 9, 9, 9, 9, 9);
    }

    private static void movePlaces() {
        due.edge("31", "BEYOND: n, i, or j is below 0, or they don't stand there.");
        OffForSecond x = withSheets();
        int[][] wrong = {{-1, 0, 0}, {0, -1, 0}, {0, 0, -1}, {7, 0, 0}, {0, 4, 0}, {6, 0, 1}, {0, 3, 1}, {3, 0, 4}, {4, 0, 3}, {0, 1, 3},
            {0, 0, 4}, {MAX, 0, 1}, {0, MAX, 1}, {0, 0, MAX}, {MAX, MAX, MAX}, {MIN, 0, 1}, {0, MIN, 1}, {0, 0, MIN}, {MIN, MIN, MIN}, {1, 1, MAX},
            {-1, 0, 1}, {0, -1, 1}, {-1, -1, 2}, {MAX, 0, MIN}, {6, 3, -1}};
        for (int[] each : wrong) {
            due.is(each[2] + " from " + each[0] + " to " + each[1], x.move(0, each[0], 1, each[1], each[2]), Due.BEYOND);
        }
        due.is("told", x.told(1), wrong.length);
        holds(x, 1, 7, 8, 9);
        due.is("none from the end to the end", x.move(0, 6, 1, 3, 0), 0);
        holds(x, 1, 7, 8, 9);
        due.is("the last to the last", x.move(0, 5, 1, 2, 1), 1);
        holds(x, 1, 7, 8, 6);
        due.is("the last three", x.move(0, 3, 1, 0, 3), 3);
        holds(x, 1, 4, 5, 6);
        due.is("all of it to the end", x.move(1, 0, 0, 3, 3), 3);
        holds(x, 0, 1, 2, 3, 4, 5, 6);
        x.sheet(3, 8, 0);
        due.is("none of none", x.move(3, 0, 3, 0, 0), 0);
        due.is("one of none", x.move(3, 0, 0, 0, 1), Due.BEYOND);
        due.is("one to none", x.move(0, 0, 3, 0, 1), Due.BEYOND);
        OffForSecond y = withPitches(0, 0, 0, 0, 0, 0);
        y.sheet(0, 8, 24);
        y.sheet(3, 8, 24);
        y.put(0, 23, 4);
        due.is("all 24", y.move(0, 0, 3, 0, 24), 24);
        due.is("25", y.move(0, 0, 3, 0, 25), Due.BEYOND);
        due.is("the last to the first", y.move(3, 23, 3, 0, 1), 1);
        holds(y, 3, 4, 0, 0, 0, 0, 0);
    }

    private static void moveAsTheyWere() {
        due.edge("31", "come to another one (or the same), from its number j on, as they all were: n");
        OffForSecond x = withSheets();
        due.is("up by one", x.move(0, 0, 0, 1, 5), 5);
        holds(x, 0, 1, 1, 2, 3, 4, 5);
        due.is("down by one", x.move(0, 1, 0, 0, 5), 5);
        holds(x, 0, 1, 2, 3, 4, 5, 5);
        due.is("where they stand", x.move(0, 0, 0, 0, 6), 6);
        holds(x, 0, 1, 2, 3, 4, 5, 5);
        due.is("up by three", x.move(0, 0, 0, 3, 3), 3);
        holds(x, 0, 1, 2, 3, 1, 2, 3);
        x = withSheets();
        due.is("up by two", x.move(0, 0, 0, 2, 4), 4);
        holds(x, 0, 1, 2, 1, 2, 3, 4);
        x.put(0, 0, 9);
        due.is("one stays apart from where it went", x.move(0, 0, 1, 0, 1), 1);
        x.put(0, 0, 5);
        holds(x, 1, 9, 8, 9);
    }

    private static void weightsUpTo() {
        due.edge("32", "how many, up to the first that is not 0 to 9 (no ERROR then)");
        int[] wrong = {-1, 10, 127, -128, MIN, MAX};
        for (int v : wrong) {
            for (int at = 0; at < 3; at++) {
                OffForSecond x = withPitches(0, 0, 0);
                x.sheet(0, 32, 3);
                for (int i = 0; i < 3; i++) {
                    x.put(0, i, i == at ? v : 9 * (i % 2));
                }
                due.is(v + " at " + at, x.weightsBy(0), at);
                for (int i = 0; i < 3; i++) {
                    due.is("WEIGHT " + i + " with " + v + " at " + at, x.pitchIs(i, 2), i < at ? 9 * (i % 2) : 1);
                }
                for (int k = 1; k <= 6; k++) {
                    due.is("no ERROR then", x.told(k), 0);
                }
            }
        }
        OffForSecond x = withPitches(0, 0);
        x.sheet(0, 8, 2);
        x.put(0, 0, 9);
        due.is("0 and 9", x.weightsBy(0), 2);
        due.is("9", x.pitchIs(0, 2), 9);
        due.is("0", x.pitchIs(1, 2), 0);
        due.is("missing", x.weightsBy(1), Due.NONE);
        due.is("no SHEET 4", x.weightsBy(4), Due.BEYOND);
    }

    private static void weightsWithoutPitch() {
        due.edge("32", "or for which there is no PITCH");
        OffForSecond x = new OffForSecond();
        x.sheet(0, 16, 24);
        for (int i = 0; i < 6; i++) {
            due.is("24 numbers, PITCHES " + i, x.weightsBy(0), i);
            x.pitch(0, 5);
        }
        due.is("24 numbers, six PITCHES", x.weightsBy(0), 6);
        x.sheet(0, 16, 0);
        due.is("no numbers", x.weightsBy(0), 0);
        x.put(0, 0, 0);
        x.weighs(1, 7);
        x.sheet(0, 16, 1);
        x.put(0, 0, 3);
        due.is("fewer numbers than PITCHES", x.weightsBy(0), 1);
        due.is("the first", x.pitchIs(0, 2), 3);
        due.is("the second stays", x.pitchIs(1, 2), 7);
    }

    private static void judgeFromFirst() {
        due.edge("33", "how many are right, from the first on");
        OffForSecond x = withPitches(0, 1, 2);
        x.sheet(0, 8, 3);
        due.is("none", x.judge(0), 0);
        x.put(0, 2, 47);
        x.put(0, 1, 46);
        due.is("the first is not", x.judge(0), 0);
        x.put(0, 0, 45);
        due.is("all", x.judge(0), 3);
        x.put(0, 2, 46);
        due.is("one below", x.judge(0), 2);
        x.put(0, 2, 48);
        due.is("one above", x.judge(0), 2);
        x.put(0, 1, 0);
        due.is("the second is not", x.judge(0), 1);
        Due.tellText(x, 0, "a-46");
        x.sheet(0, 8, 3);
        due.is("AIR held at 0, and 1", x.judge(0), 2);
        Due.tellText(x, 0, "a*5");
        x.sheet(0, 16, 3);
        for (int i = 0; i < 3; i++) {
            x.put(0, i, 199);
        }
        due.is("AIR held at 199", x.judge(0), 3);
        x.put(0, 0, 200);
        due.is("200 is none", x.judge(0), 0);
        x.put(0, 0, 225);
        due.is("225 is held", x.judge(0), 0);
    }

    private static void judgeWithoutPitch() {
        due.edge("33", "BEYOND: no such SHEET. NONE: it is missing.");
        OffForSecond x = new OffForSecond();
        due.is("missing", x.judge(0), Due.NONE);
        due.is("no SHEET 4", x.judge(4), Due.BEYOND);
        due.is("no SHEET -1", x.judge(-1), Due.BEYOND);
        x.sheet(0, 8, 24);
        for (int i = 0; i < 24; i++) {
            x.put(0, i, 45);
        }
        for (int i = 0; i < 6; i++) {
            due.is("24 numbers, PITCHES " + i, x.judge(0), i);
            x.pitch(0, 0);
        }
        due.is("24 numbers, six PITCHES", x.judge(0), 6);
        x.sheet(0, 8, 0);
        due.is("no numbers", x.judge(0), 0);
    }

    private static void imageHowOften() {
        due.edge("34", "in place of one ahead: how often that was done");
        OffForSecond x = new OffForSecond();
        for (int often = 1; often <= 300; often++) {
            due.is("how often", x.image(), often);
        }
        x.restore();
        due.is("restore() is none", x.image(), 301);
    }

    private static void imageOfNothing() {
        due.edge("35", "All is as the IMAGE has it, which stays: INNINGS.");
        OffForSecond x = new OffForSecond();
        x.image();
        Crowd.in(x);
        for (int i = 0; i < 2; i++) {
            due.is("INNINGS", x.restore(), 0);
            int[] first = {0, 0, 0, 0, 0, 100, 130, 0, 0, 0};
            for (int what = 0; what < first.length; what++) {
                due.is("count " + what, x.count(what), first[what]);
            }
            due.is("z", x.count(11), 1);
            due.is("no TEXT 0", x.untell(0), 0);
            due.is("no TEXT 1", x.untell(1), 0);
            due.is("no PITCH", x.pitchIs(0, 0), Due.BEYOND);
            due.is("no RUNNER", x.runnerIs(0, 0), Due.BEYOND);
            due.is("a PITCH", x.pitch(11, 2), 0);
            due.is("a RUNNER", x.runner(3, 4), 0);
            due.is("not THROWN", x.pitchIs(0, 3), 0);
            due.is("LEAD", x.runnerIs(0, 2), 0);
            due.is("STOLEN", x.runnerIs(0, 3), 0);
            due.is("CAUGHT", x.runnerIs(0, 4), 0);
            due.is("empty TAPE", x.feed(0, 1), 1);
            due.is("none wait", x.tell(0), 1);
        }
    }

    private static void imageOfFull() {
        due.edge("34", "is kept as an IMAGE, in place of one ahead");
        OffForSecond x = new OffForSecond();
        Crowd.in(x);
        OffForSecond y = new OffForSecond();
        Crowd.in(y);
        x.image();
        x.check();
        x.text(0);
        for (int i = 0; i < 24; i++) {
            x.tell(-1);
        }
        Due.feedAll(x, "))))");
        x.untell(0);
        x.untell(1);
        x.loose(30);
        for (int i = 0; i < 6; i++) {
            x.become(i, 0);
            x.weighs(i, 0);
        }
        for (int i = 0; i < 4; i++) {
            x.set(i, 0);
        }
        due.is("INNINGS", x.restore(), y.count(3));
        for (int what = 0; what < 12; what++) {
            due.is("count " + what, x.count(what), y.count(what));
        }
        for (int i = 0; i < 6; i++) {
            for (int what = 0; what < 6; what++) {
                due.is("PITCH " + i + ", " + what, x.pitchIs(i, what), y.pitchIs(i, what));
            }
        }
        for (int i = 0; i < 5; i++) {
            for (int what = 0; what < 7; what++) {
                due.is("RUNNER " + i + ", " + what, x.runnerIs(i, what), y.runnerIs(i, what));
            }
        }
        due.is("a seventh PITCH", x.pitch(0, 0), Due.FULL);
        due.is("a sixth RUNNER", x.runner(0, 1), Due.FULL);
        due.is("a 25th number", x.tell(0), Due.FULL);
        due.is("a 61st byte", x.feed(0, 1), Due.FULL);
        due.is("they wait as they did", x.check(), 6);
        due.is("THE TAPE as it was", x.text(0), y.text(0));
    }

    private static void imageInPlace() {
        due.edge("35", "which stays");
        OffForSecond x = new OffForSecond();
        Crowd.in(x);
        x.image();
        x.restore();
        x.set(0, 1);
        x.image();
        x.set(0, 2);
        for (int i = 0; i < 3; i++) {
            x.restore();
            due.is("the latest IMAGE", x.count(5), 1);
            x.set(0, 3);
            x.leads(0, 0);
            x.weighs(0, 0);
        }
        x.restore();
        due.is("LEAD of the IMAGE", x.runnerIs(0, 2), 20);
        due.is("WEIGHT of the IMAGE", x.pitchIs(0, 2), 9);
    }

    private static void imageLeavesOut() {
        due.edge("34", "All (but SHEETS, THE TRACE, what told() tells, and how often this was done)");
        OffForSecond x = withPitches(2);
        x.sheet(0, 8, 1);
        x.voice(0, 0, 1);
        x.image();
        x.put(0, 0, 8);
        x.sheet(1, 16, 24);
        x.voice(0, 2, 1);
        x.image();
        x.count(-1);
        x.restore();
        due.is("SHEET 0", x.weightsBy(0), 1);
        due.is("its number", x.pitchIs(0, 2), 8);
        due.is("SHEET 1", x.put(1, 23, 0), 1);
        traced(x, 12, 11, 10);
        due.is("told", x.told(1), 1);
        due.is("how often", x.image(), 3);
        x.sheet(0, 0, 0);
        x.restore();
        due.is("a SHEET that is missing", x.judge(0), Due.NONE);
    }

    private static void restoreNone() {
        due.edge("35", "NONE: there is none.");
        OffForSecond x = withPitches(55);
        for (int i = 1; i <= 3; i++) {
            due.is("none", x.restore(), Due.NONE);
            due.is("told", x.told(2), i);
            due.is("PITCHES stay", x.count(0), 1);
        }
        x.image();
        due.is("there is one", x.restore(), 0);
    }

    private static void tellFull() {
        due.edge("36", "One more number waits: how many. FULL: 24 wait.");
        OffForSecond x = new OffForSecond();
        for (int i = 1; i <= 24; i++) {
            due.is("how many", x.tell(7), i);
        }
        for (int i = 1; i <= 3; i++) {
            due.is("24 wait", x.tell(7), Due.FULL);
            due.is("told", x.told(4), i);
            due.is("24 still", x.count(9), 24);
        }
        x.check();
        due.is("the first again", x.tell(7), 1);
    }

    private static void tellAnyNumber() {
        due.edge("37", "The numbers that wait (none do then) are LEADS of RUNNERS 0, 1, ..: 0");
        int[] unlike = {MIN, -1, 1, 65536, 256, MAX};
        for (int v : unlike) {
            OffForSecond x = new OffForSecond();
            x.runner(0, 1);
            due.is("told " + v, x.tell(v), 1);
            due.is(v + " is not 0", x.check(), 1);
            due.is("none do then", x.count(9), 0);
            x.tell(0);
            due.is("0 is 0", x.check(), 0);
            due.is("none do then, too", x.count(9), 0);
        }
    }

    private static void checkPlaces() {
        due.edge("37", "else 1 and the place (from 0) of the first that isn't so (or for which there is no RUNNER)");
        for (int wrongAt = 0; wrongAt <= 5; wrongAt++) {
            OffForSecond x = new OffForSecond();
            for (int i = 0; i < 5; i++) {
                x.runner(0, 1);
                x.leads(i, 4 * i + 1);
            }
            for (int i = 0; i < 24; i++) {
                x.tell(i >= wrongAt ? 0 : 4 * i + 1);
            }
            due.is("the first at " + wrongAt, x.check(), 1 + wrongAt);
            due.is("none do then", x.check(), 0);
        }
        OffForSecond x = new OffForSecond();
        for (int i = 0; i < 6; i++) {
            x.tell(0);
            due.is("RUNNERS " + Math.max(0, i - 1) + ", one number", x.check(), i == 0 ? 1 : 0);
            for (int j = 0; j <= i; j++) {
                x.tell(0);
            }
            due.is("RUNNERS " + i, x.check(), 1 + i);
            due.is("one more", x.runner(0, 1), i < 5 ? i : Due.FULL);
        }
    }

    private static void checkEmpties() {
        due.edge("37", "(none do then)");
        OffForSecond x = new OffForSecond();
        due.is("none wait", x.check(), 0);
        x.tell(5);
        due.is("there is no RUNNER", x.check(), 1);
        due.is("none wait any more", x.check(), 0);
        x.runner(0, 1);
        x.runner(0, 1);
        x.leads(1, 9);
        x.tell(0);
        due.is("fewer than RUNNERS", x.check(), 0);
    }

    private static void countWhats() {
        due.edge("38", "0 PITCHES, 1 RUNNERS, 2 OUTS, 3 INNINGS, 4 WORTH (any number)");
        OffForSecond x = new OffForSecond();
        int[] wrong = {-1, 12, 13, MIN, MAX};
        for (int i = 0; i < wrong.length; i++) {
            due.is("what " + wrong[i], x.count(wrong[i]), Due.BEYOND);
            due.is("told", x.told(1), i + 1);
        }
        int[] first = {0, 0, 0, 0, 0, 100, 130, 0, 0, 0, 0, 1};
        for (int what = 0; what < 12; what++) {
            due.is("at first, what " + what, x.count(what), first[what]);
        }
        Crowd.in(x);
        int[] then = {6, 5, 1, 1, -51 - 20 - 24 + 69 + 44, 199, 150, 8, 60, 24, 0, MIN};
        for (int what = 0; what < 12; what++) {
            due.is("full, what " + what, x.count(what), then[what]);
        }
    }

    private static void countAnyNumber() {
        due.edge("38", "10 BODIES in THE TRACE, 11 z (any number). BEYOND.");
        OffForSecond x = withPitches(0);
        x.runner(99, 60);
        Due.tellText(x, 1, "0-1");
        x.steal(0, 0);
        due.is("WORTH -1", x.count(4), -1);
        int[] some = {MIN, MAX, Due.BEYOND, Due.NONE, 0};
        for (int v : some) {
            x.seed(v);
            due.is("z", x.count(11), v);
        }
        due.is("no ERROR", x.told(1), 0);
        due.is("no BODIES", x.count(10), 0);
        x.become(0, 49);
        x.voice(0, 2, 0);
        due.is("six BODIES", x.count(10), 6);
    }

    private static void toldKs() {
        due.edge("39", "How many acts have answered an ERROR LOW - k (k 1 .. 6)");
        OffForSecond x = withPitches(0, 0, 0, 0, 0, 0);
        x.runner(31, 1);
        x.set(0, 0);
        for (int i = 0; i < 6; i++) {
            x.weighs(i, 0);
        }
        for (int k = 1; k <= 6; k++) {
            due.is("none yet, k " + k, x.told(k), 0);
        }
        for (int often = 1; often <= 6; often++) {
            due.is("BEYOND", x.pitchIs(6, 0), Due.BEYOND);
            due.is("NONE", x.bestLead(0, 0), Due.NONE);
            due.is("STATE", x.odds(0, 0), Due.STATE);
            due.is("FULL", x.pitch(0, 0), Due.FULL);
            due.is("KIND", x.as(0, 6), Due.KIND);
            due.is("PARTED", x.voice(0, 3, 1), Due.PARTED);
            for (int k = 1; k <= 6; k++) {
                due.is("k " + k, x.told(k), often);
            }
        }
    }

    private static void toldCountsItself() {
        due.edge("39", "BEYOND: another k (counted, too).");
        OffForSecond x = new OffForSecond();
        int[] wrong = {0, 7, -1, 8, MIN, MAX};
        for (int i = 0; i < wrong.length; i++) {
            due.is("k " + wrong[i], x.told(wrong[i]), Due.BEYOND);
            due.is("counted, too", x.told(1), i + 1);
        }
        for (int k = 2; k <= 6; k++) {
            due.is("no other, k " + k, x.told(k), 0);
        }
    }
}
