import java.util.ArrayList;
import java.util.List;
import java.util.function.Consumer;
import java.util.function.ToIntFunction;

/**
 * Each call that is refused: what it answers, and that it changes nothing but what told() tells. Two objects are made
 * alike, one is refused a call, then both are asked the same questions: all that can be asked, in several rounds.
 */
public final class RefusalsTest {
    private static final Due due = new Due();
    private static final int MIN = Integer.MIN_VALUE;
    private static final int MAX = Integer.MAX_VALUE;
    private static final int ROUNDS = 4;
    private static final Consumer<OffForSecond> NEW = x -> { };
    private static final Consumer<OffForSecond> FULL = Crowd::withAll;

    public static void main(String[] args) {
        nothingIsThere();
        pitches();
        runners();
        settings();
        texts();
        wouldBe();
        wouldBeNone();
        allWeightsAreZero();
        draws();
        voices();
        sheets();
        putsAndMoves();
        imagesAndNumbers();
        inTheirOrder();
        refusedAgain();
        faultIsNoError();
        due.end("RefusalsTest");
    }

    private static void refused(String call, int want, Consumer<OffForSecond> making, ToIntFunction<OffForSecond> act) {
        for (int round = 0; round < ROUNDS; round++) {
            OffForSecond x = new OffForSecond();
            OffForSecond y = new OffForSecond();
            making.accept(x);
            making.accept(y);
            due.is(call, act.applyAsInt(x), want);
            for (int k = 1; k <= 6; k++) {
                due.is(call + ", then told " + k, x.told(k), y.told(k) + (want == -1000000000 - k ? 1 : 0));
            }
            alike(call + ", then round " + round, x, y, round, want == Due.PARTED);
        }
    }

    private static void alike(String call, OffForSecond x, OffForSecond y, int round, boolean isParted) {
        List<Integer> ofX = questions(x, round, isParted);
        List<Integer> ofY = questions(y, round, isParted);
        due.is(call + ", questions", ofX.size(), ofY.size());
        for (int i = 0; i < ofX.size() && i < ofY.size(); i++) {
            due.is(call + ", question " + i, ofX.get(i), ofY.get(i));
        }
    }

    private static List<Integer> questions(OffForSecond x, int round, boolean isParted) {
        List<Integer> answers = new ArrayList<>();
        switch (round) {
            case 0:
                whatStands(x, answers);
                if (!isParted) {
                    trace(x, answers);
                }
                break;
            case 1:
                textsAndWaiting(x, answers);
                break;
            case 2:
                rows(x, answers);
                break;
            default:
                answers.add(x.restore());
                whatStands(x, answers);
                textsAndWaiting(x, answers);
                answers.add(x.image());
                break;
        }
        return answers;
    }

    private static void whatStands(OffForSecond x, List<Integer> answers) {
        for (int what = 0; what < 12; what++) {
            if (what != 10) {
                answers.add(x.count(what));
            }
        }
        for (int i = 0; i < 6; i++) {
            for (int what = 0; what < 6; what++) {
                answers.add(x.pitchIs(i, what));
            }
        }
        for (int i = 0; i < 5; i++) {
            for (int what = 0; what < 7; what++) {
                answers.add(x.runnerIs(i, what));
            }
        }
    }

    private static void trace(OffForSecond x, List<Integer> answers) {
        answers.add(x.count(10));
        for (int i = 0; i < 30; i++) {
            answers.add(x.body(i));
        }
    }

    private static void textsAndWaiting(OffForSecond x, List<Integer> answers) {
        for (int i = 0; i < 4; i++) {
            answers.add(x.law(0, 7 * i, i + 1, 2 - i));
            answers.add(x.law(1, i % 2, 9 - 6 * i, i));
        }
        answers.add(x.check());
        answers.add(x.text(0));
        answers.add(x.law(0, 55, 6, 1));
        answers.add(x.untell(0));
        answers.add(x.untell(1));
    }

    /** The numbers of each SHEET as WEIGHTS, six and six; then how many there are, of which bits. */
    private static void rows(OffForSecond x, List<Integer> answers) {
        for (int sheet = 0; sheet < 4; sheet++) {
            for (int from = 0; from < 24; from += 6) {
                answers.add(x.move(sheet, from, sheet, 0, 6));
                answers.add(x.weightsBy(sheet));
                for (int i = 0; i < 6; i++) {
                    answers.add(x.pitchIs(i, 2));
                }
            }
            for (int other = 0; other < 4; other++) {
                answers.add(x.move(sheet, 0, other, 0, 0));
            }
            for (int i = 0; i < 25; i += 6) {
                answers.add(x.put(sheet, i, 256));
            }
        }
        answers.add(x.judge(0));
    }

    private static void nothingIsThere() {
        due.edge("1", "All as at first; no PITCHES, no RUNNERS, no TEXTS.");
        refused("pitchIs", Due.BEYOND, NEW, x -> x.pitchIs(0, 0));
        refused("become", Due.BEYOND, NEW, x -> x.become(0, 0));
        refused("as", Due.BEYOND, NEW, x -> x.as(0, 0));
        refused("weighs", Due.BEYOND, NEW, x -> x.weighs(0, 0));
        refused("runnerIs", Due.BEYOND, NEW, x -> x.runnerIs(0, 0));
        refused("leads", Due.BEYOND, NEW, x -> x.leads(0, 0));
        refused("steal", Due.BEYOND, NEW, x -> x.steal(0, 0));
        refused("over", Due.BEYOND, NEW, x -> x.over(0));
        refused("margin", Due.BEYOND, NEW, x -> x.margin(0, 0, 0));
        refused("leadFor", Due.BEYOND, NEW, x -> x.leadFor(0, 0));
        refused("bestLead", Due.BEYOND, NEW, x -> x.bestLead(0, 0));
        refused("odds", Due.BEYOND, NEW, x -> x.odds(0, 0));
        refused("go", Due.BEYOND, NEW, x -> x.go(0, 0));
        refused("duel", Due.BEYOND, NEW, x -> x.duel(0, 0, 0, 0));
        refused("surely", Due.BEYOND, NEW, x -> x.surely(0, 0));
        refused("fits", Due.BEYOND, NEW, x -> x.fits(0, 0, 0));
        refused("voice", Due.BEYOND, NEW, x -> x.voice(0, 0, 0));
        refused("body", Due.NONE, NEW, x -> x.body(0));
        refused("put", Due.NONE, NEW, x -> x.put(0, 0, 0));
        refused("move", Due.NONE, NEW, x -> x.move(0, 0, 0, 0, 0));
        refused("weightsBy", Due.NONE, NEW, x -> x.weightsBy(0));
        refused("judge", Due.NONE, NEW, x -> x.judge(0));
        refused("restore", Due.NONE, NEW, x -> x.restore());
    }

    private static void pitches() {
        due.edge("2", "ERRORS are answers below -1000000000: LOW is -1000000000; LOW - 1 BEYOND");
        for (int pitch : new int[] {-1, 6, MIN, MAX}) {
            refused("3: pitchIs " + pitch, Due.BEYOND, FULL, x -> x.pitchIs(pitch, 0));
            refused("4: become " + pitch, Due.BEYOND, FULL, x -> x.become(pitch, 0));
            refused("5: as " + pitch, Due.BEYOND, FULL, x -> x.as(pitch, 0));
            refused("6: weighs " + pitch, Due.BEYOND, FULL, x -> x.weighs(pitch, 0));
            refused("11: steal on " + pitch, Due.BEYOND, FULL, x -> x.steal(0, pitch));
            refused("17: margin on " + pitch, Due.BEYOND, FULL, x -> x.margin(0, pitch, 0));
            refused("18: leadFor " + pitch, Due.BEYOND, FULL, x -> x.leadFor(0, pitch));
            refused("22: duel with " + pitch, Due.BEYOND, FULL, x -> x.duel(0, pitch, 0, 0));
            refused("22: duel with the other " + pitch, Due.BEYOND, FULL, x -> x.duel(0, 0, pitch, 0));
            refused("27: voice of " + pitch, Due.BEYOND, FULL, x -> x.voice(pitch, 0, 0));
        }
        for (int km : new int[] {-1, 70, MIN, MAX}) {
            refused("2: pitch " + km, Due.BEYOND, NEW, x -> x.pitch(km, 0));
            refused("4: become of " + km, Due.BEYOND, FULL, x -> x.become(0, km));
        }
        for (int weight : new int[] {-1, 10, MIN, MAX}) {
            refused("2: pitch of WEIGHT " + weight, Due.BEYOND, NEW, x -> x.pitch(0, weight));
            refused("6: weighs " + weight, Due.BEYOND, FULL, x -> x.weighs(0, weight));
        }
        for (int what : new int[] {-1, 6, MIN, MAX}) {
            refused("3: pitchIs, what " + what, Due.BEYOND, FULL, x -> x.pitchIs(0, what));
        }
        for (int kind : new int[] {-1, 7, MIN, MAX}) {
            refused("5: as, KIND " + kind, Due.BEYOND, FULL, x -> x.as(0, kind));
        }
        // PITCH 0 is a SPIT, 1 a CUTTER, .. 5 a CURVE
        for (int kind = 1; kind < 6; kind++) {
            int other = kind;
            refused("5: SPIT as " + kind, Due.KIND, FULL, x -> x.as(0, other));
        }
        refused("5: CURVE as SLOW", Due.KIND, x -> {
            Crowd.withAll(x);
            x.become(5, 10);
        }, x -> x.as(5, 4));
        refused("2: a seventh", Due.FULL, FULL, x -> x.pitch(0, 0));
        refused("2: a seventh, of other numbers", Due.FULL, FULL, x -> x.pitch(69, 9));
    }

    private static void runners() {
        due.edge("7", "RUNNERS 0, 1, .. (at most 5)");
        for (int runner : new int[] {-1, 5, MIN, MAX}) {
            refused("8: runnerIs " + runner, Due.BEYOND, FULL, x -> x.runnerIs(runner, 0));
            refused("9: leads " + runner, Due.BEYOND, FULL, x -> x.leads(runner, 0));
            refused("11: steal of " + runner, Due.BEYOND, FULL, x -> x.steal(runner, 0));
            refused("12: over " + runner, Due.BEYOND, FULL, x -> x.over(runner));
            refused("17: margin of " + runner, Due.BEYOND, FULL, x -> x.margin(runner, 0, 0));
            refused("18: leadFor of " + runner, Due.BEYOND, FULL, x -> x.leadFor(runner, 0));
            refused("19: bestLead of " + runner, Due.BEYOND, FULL, x -> x.bestLead(runner, 0));
            refused("20: odds of " + runner, Due.BEYOND, FULL, x -> x.odds(runner, 0));
            refused("21: go of " + runner, Due.BEYOND, FULL, x -> x.go(runner, 0));
            refused("22: duel of " + runner, Due.BEYOND, FULL, x -> x.duel(runner, 0, 1, 0));
            refused("23: surely of " + runner, Due.BEYOND, FULL, x -> x.surely(runner, 0));
            refused("24: fits of " + runner, Due.BEYOND, FULL, x -> x.fits(0, runner, 0));
        }
        for (int start : new int[] {-1, 100, MIN, MAX}) {
            refused("7: runner of START " + start, Due.BEYOND, NEW, x -> x.runner(start, 1));
        }
        for (int pace : new int[] {0, 61, -1, MIN, MAX}) {
            refused("7: runner of PACE " + pace, Due.BEYOND, NEW, x -> x.runner(0, pace));
        }
        for (int feet : new int[] {-1, 21, MIN, MAX}) {
            refused("9: leads by " + feet, Due.BEYOND, FULL, x -> x.leads(0, feet));
            refused("17: margin from " + feet, Due.BEYOND, FULL, x -> x.margin(0, 0, feet));
        }
        for (int what : new int[] {-1, 7, MIN, MAX}) {
            refused("8: runnerIs, what " + what, Due.BEYOND, FULL, x -> x.runnerIs(0, what));
        }
        refused("7: a sixth", Due.FULL, FULL, x -> x.runner(0, 1));
        refused("7: a sixth, of other numbers", Due.FULL, FULL, x -> x.runner(99, 60));
    }

    private static void settings() {
        due.edge("10", "LIFT (what 0), POP (1), WET (2), OUTS (3) becomes v: what it was. BEYOND.");
        int[] most = {200, 200, 9, 2};
        for (int what = 0; what < 4; what++) {
            int of = what;
            for (int v : new int[] {-1, most[what] + 1, MIN, MAX}) {
                refused("set " + what + " to " + v, Due.BEYOND, FULL, x -> x.set(of, v));
            }
        }
        for (int what : new int[] {-1, 4, MIN, MAX}) {
            refused("set " + what, Due.BEYOND, FULL, x -> x.set(what, 0));
        }
    }

    private static void texts() {
        due.edge("13", "how many there are. BEYOND. FULL.");
        for (int n : new int[] {0, 9, -1, MIN, MAX}) {
            refused("feed " + n, Due.BEYOND, NEW, x -> x.feed(0x3131313131313131L, n));
            refused("feed " + n + ", no room", Due.BEYOND, FULL, x -> x.feed(0x3131313131313131L, n));
        }
        refused("feed, no room", Due.FULL, FULL, x -> x.feed(0x31L, 1));
        String bytes = "1+2+3+4+5+6+7+8+9+1+2+3+4+5+6+7+8+9+1+2+3+4+5+6+7+8+9+1+2+3";
        for (int n = 2; n <= 8; n++) {
            int one = n;
            refused("feed " + n + ", room for one less", Due.FULL, x -> Due.feedAll(x, bytes.substring(0, 61 - one)), x -> x.feed(0x3131313131313131L, one));
        }
        refused("feed of eight, room for one", Due.FULL, x -> Due.feedAll(x, bytes), x -> x.feed(0x3131313131313131L, 8));
        due.edge("14", "BEYOND (THE TAPE stays).");
        for (int use : new int[] {-1, 2, MIN, MAX}) {
            refused("14: text " + use, Due.BEYOND, FULL, x -> x.text(use));
            refused("15: untell " + use, Due.BEYOND, FULL, x -> x.untell(use));
            refused("16: law " + use, Due.BEYOND, FULL, x -> x.law(use, 1, 2, 3));
        }
    }

    private static void wouldBe() {
        due.edge("20", "part 0 above, 1 below the line. BEYOND.");
        for (int part : new int[] {-1, 2, MIN, MAX}) {
            refused("19: bestLead, what " + part, Due.BEYOND, FULL, x -> x.bestLead(0, part));
            refused("20: odds, part " + part, Due.BEYOND, FULL, x -> x.odds(0, part));
            refused("21: go, part " + part, Due.BEYOND, FULL, x -> x.go(0, part));
            refused("22: duel, part " + part, Due.BEYOND, FULL, x -> x.duel(0, 0, 1, part));
            refused("23: surely, what " + part, Due.BEYOND, FULL, x -> x.surely(0, part));
            refused("24: fits, what " + part, Due.BEYOND, FULL, x -> x.fits(0, 0, part));
        }
        for (int sheet : new int[] {-1, 4, MIN, MAX}) {
            refused("24: fits by " + sheet, Due.BEYOND, FULL, x -> x.fits(sheet, 0, 0));
        }
    }

    private static void wouldBeNone() {
        Consumer<OffForSecond> low = x -> {
            Crowd.withAll(x);
            x.untell(0);
            x.set(0, 0);
            x.set(1, 0);
        };
        due.edge("18", "NONE: not by 20.");
        refused("leadFor", Due.NONE, low, x -> x.leadFor(0, 0));
        due.edge("19", "NONE: with all he is PICKED.");
        refused("bestLead, which", Due.NONE, low, x -> x.bestLead(0, 0));
        refused("bestLead, how much", Due.NONE, low, x -> x.bestLead(0, 1));
        due.edge("24", "NONE: the SHEET is missing; (what 1) there is none.");
        refused("missing, how many", Due.NONE, FULL, x -> x.fits(3, 0, 0));
        refused("missing, the least", Due.NONE, FULL, x -> x.fits(3, 0, 1));
        refused("there is none, the least", Due.NONE, FULL, x -> x.fits(0, 0, 1));
    }

    private static void allWeightsAreZero() {
        due.edge("20", "STATE: all WEIGHTS are 0.");
        Consumer<OffForSecond> light = x -> {
            Crowd.withAll(x);
            for (int i = 0; i < 6; i++) {
                x.weighs(i, 0);
            }
        };
        for (int part = 0; part < 2; part++) {
            int of = part;
            refused("20: odds, part " + part, Due.STATE, light, x -> x.odds(4, of));
            refused("21: go, part " + part, Due.STATE, light, x -> x.go(4, of));
            refused("20: odds, no PITCHES, part " + part, Due.STATE, x -> x.runner(0, 1), x -> x.odds(0, of));
            refused("21: go, no PITCHES, part " + part, Due.STATE, x -> x.runner(0, 1), x -> x.go(0, of));
        }
    }

    private static void draws() {
        due.edge("25", "n (1 .. 30) tries BY DRAWS: how often somebody was SAFE. BEYOND.");
        for (int n : new int[] {0, 31, -1, MIN, MAX}) {
            refused("loose " + n, Due.BEYOND, FULL, x -> x.loose(n));
        }
    }

    private static void voices() {
        due.edge("27", "A VOICE of a PITCH: any number. BEYOND. PARTED.");
        for (int voice : new int[] {-1, 4, MIN, MAX}) {
            refused("voice " + voice, Due.BEYOND, FULL, x -> x.voice(0, voice, 0));
        }
        refused("parts of a CUTTER, 4 and 4", Due.PARTED, FULL, x -> x.voice(4, 3, 9));
        refused("parts of a CURVE, 5 and 5", Due.PARTED, x -> {
            Crowd.withAll(x);
            x.become(5, 15);
        }, x -> x.voice(5, 3, 9));
        due.edge("28", "THE TRACE's i-th. NONE: there is none such.");
        for (int i : new int[] {-1, 6, 7, 29, 30, MIN, MAX}) {
            refused("body " + i, Due.NONE, FULL, x -> x.body(i));
        }
    }

    private static void sheets() {
        due.edge("29", "BEYOND. STATE: n is below 0 (ahead of BEYOND of n).");
        for (int sheet : new int[] {-1, 4, MIN, MAX}) {
            refused("29: sheet " + sheet, Due.BEYOND, FULL, x -> x.sheet(sheet, 8, 1));
            refused("29: sheet " + sheet + ", missing", Due.BEYOND, FULL, x -> x.sheet(sheet, 0, 1));
            refused("30: put in " + sheet, Due.BEYOND, FULL, x -> x.put(sheet, 0, 1));
            refused("31: move from " + sheet, Due.BEYOND, FULL, x -> x.move(sheet, 0, 0, 0, 1));
            refused("31: move to " + sheet, Due.BEYOND, FULL, x -> x.move(0, 0, sheet, 0, 1));
            refused("32: weightsBy " + sheet, Due.BEYOND, FULL, x -> x.weightsBy(sheet));
            refused("33: judge " + sheet, Due.BEYOND, FULL, x -> x.judge(sheet));
        }
        for (int bits : new int[] {-8, 1, 7, 9, 15, 17, 24, 31, 33, 64, MIN, MAX}) {
            refused("29: " + bits + " bits", Due.BEYOND, FULL, x -> x.sheet(0, bits, 3));
        }
        for (int sheet = 0; sheet < 4; sheet++) {
            int of = sheet;
            for (int bits = 8; bits <= 32; bits *= 2) {
                int wide = bits;
                refused("29: SHEET " + sheet + " of 25 numbers", Due.BEYOND, FULL, x -> x.sheet(of, wide, 25));
                refused("29: SHEET " + sheet + " of MAX numbers", Due.BEYOND, FULL, x -> x.sheet(of, wide, MAX));
                refused("29: SHEET " + sheet + " of -1 numbers", Due.STATE, FULL, x -> x.sheet(of, wide, -1));
                refused("29: SHEET " + sheet + " of MIN numbers", Due.STATE, FULL, x -> x.sheet(of, wide, MIN));
            }
        }
        due.edge("32", "BEYOND: no such SHEET. NONE: it is missing.");
        refused("32: weightsBy", Due.NONE, FULL, x -> x.weightsBy(3));
        refused("33: judge", Due.NONE, FULL, x -> x.judge(3));
    }

    private static void putsAndMoves() {
        due.edge("30", "BEYOND: no such SHEET. NONE: it is missing. BEYOND: no such number.");
        refused("missing", Due.NONE, FULL, x -> x.put(3, 0, 5));
        for (int i : new int[] {-1, 24, MIN, MAX}) {
            refused("number " + i, Due.BEYOND, FULL, x -> x.put(0, i, 5));
        }
        refused("number 7 of seven", Due.BEYOND, FULL, x -> x.put(1, 7, 5));
        refused("number 0 of none", Due.BEYOND, FULL, x -> x.put(2, 0, 5));
        due.edge("31", "BEYOND: n, i, or j is below 0, or they don't stand there.");
        refused("from a missing one", Due.NONE, FULL, x -> x.move(3, 0, 0, 0, 0));
        refused("to a missing one", Due.NONE, FULL, x -> x.move(0, 0, 3, 0, 0));
        refused("8 to 16 bits", Due.KIND, FULL, x -> x.move(0, 0, 1, 0, 1));
        refused("32 to 8 bits", Due.KIND, FULL, x -> x.move(2, 0, 0, 0, 0));
        int[][] wrong = {{-1, 0, 1}, {0, -1, 1}, {0, 1, -1}, {24, 0, 1}, {0, 24, 1}, {0, 1, 24}, {1, 0, 24}, {0, 0, 25}, {25, 0, 0}, {0, 25, 0},
            {MIN, 0, 1}, {0, MIN, 1}, {0, 1, MIN}, {MAX, 0, 1}, {0, MAX, 1}, {1, 2, MAX}, {MAX, 1, MAX}, {1, MAX, MAX}};
        for (int[] each : wrong) {
            refused(each[2] + " from " + each[0] + " to " + each[1], Due.BEYOND, FULL, x -> x.move(0, each[0], 0, each[1], each[2]));
        }
        refused("one from none", Due.BEYOND, FULL, x -> x.move(2, 0, 2, 0, 1));
    }

    private static void imagesAndNumbers() {
        due.edge("35", "NONE: there is none.");
        refused("restore", Due.NONE, Crowd::in, x -> x.restore());
        due.edge("36", "FULL: 24 wait.");
        for (int v : new int[] {0, 9, MIN, MAX}) {
            refused("tell " + v, Due.FULL, FULL, x -> x.tell(v));
        }
        due.edge("38", "11 z (any number). BEYOND.");
        for (int what : new int[] {-1, 12, MIN, MAX}) {
            refused("count " + what, Due.BEYOND, FULL, x -> x.count(what));
        }
        due.edge("39", "BEYOND: another k (counted, too).");
        for (int k : new int[] {0, 7, -1, MIN, MAX}) {
            refused("told " + k, Due.BEYOND, FULL, x -> x.told(k));
        }
    }

    /** Calls that could be refused for two reasons. */
    private static void inTheirOrder() {
        due.edge("2", "Each act tells its ERRORS in the order in which they are asked");
        refused("2: pitch, BEYOND and FULL", Due.BEYOND, FULL, x -> x.pitch(70, 0));
        refused("2: pitch, BEYOND of WEIGHT and FULL", Due.BEYOND, FULL, x -> x.pitch(0, 10));
        refused("5: as, no PITCH, no such KIND", Due.BEYOND, FULL, x -> x.as(6, 5));
        refused("7: runner, BEYOND and FULL", Due.BEYOND, FULL, x -> x.runner(0, 61));
        refused("7: runner, BEYOND of START and FULL", Due.BEYOND, FULL, x -> x.runner(-1, 1));
        refused("13: feed, BEYOND and FULL", Due.BEYOND, FULL, x -> x.feed(0L, 9));
        refused("17: margin, all wrong", Due.BEYOND, FULL, x -> x.margin(5, 6, 21));
        refused("18: leadFor, BEYOND and NONE", Due.BEYOND, x -> {
            x.pitch(0, 1);
            x.runner(99, 60);
        }, x -> x.leadFor(0, 1));
        refused("19: bestLead, BEYOND and NONE", Due.BEYOND, x -> {
            x.runner(31, 1);
            x.set(0, 0);
        }, x -> x.bestLead(0, 2));
        refused("20: odds, BEYOND and STATE", Due.BEYOND, x -> x.runner(0, 1), x -> x.odds(0, 2));
        refused("20: odds, no RUNNER and STATE", Due.BEYOND, x -> x.runner(0, 1), x -> x.odds(1, 0));
        refused("21: go, BEYOND and STATE", Due.BEYOND, x -> x.runner(0, 1), x -> x.go(0, 2));
        refused("21: go, no RUNNER and STATE", Due.BEYOND, x -> x.runner(0, 1), x -> x.go(1, 0));
        refused("24: fits, no RUNNER and missing", Due.BEYOND, FULL, x -> x.fits(3, 5, 0));
        refused("24: fits, no such what and missing", Due.BEYOND, FULL, x -> x.fits(3, 0, 2));
        refused("27: voice, no PITCH, parts", Due.BEYOND, FULL, x -> x.voice(6, 3, 0));
        refused("29: sheet, bits and STATE", Due.BEYOND, FULL, x -> x.sheet(0, 7, -1));
        refused("29: sheet, no SHEET and STATE", Due.BEYOND, FULL, x -> x.sheet(4, 8, -1));
        refused("30: put, no SHEET, no number", Due.BEYOND, FULL, x -> x.put(4, -1, 0));
        refused("30: put, missing, no number", Due.NONE, FULL, x -> x.put(3, -1, 0));
        refused("31: move, missing and no SHEET", Due.BEYOND, FULL, x -> x.move(3, 0, 4, 0, 0));
        refused("31: move, missing and no place", Due.NONE, FULL, x -> x.move(3, -1, 0, 0, 0));
        refused("31: move, unlike and no place", Due.KIND, FULL, x -> x.move(0, -1, 1, 0, 0));
        refused("31: move, unlike and n -1", Due.KIND, FULL, x -> x.move(1, 0, 0, 0, -1));
    }

    private static void refusedAgain() {
        due.edge("39", "How many acts have answered an ERROR LOW - k (k 1 .. 6)");
        for (int often = 1; often <= 3; often++) {
            int before = often - 1;
            refused("the " + often + ". time", Due.FULL, x -> {
                Crowd.withAll(x);
                for (int i = 0; i < before; i++) {
                    x.pitch(0, 0);
                }
            }, x -> x.pitch(0, 0));
        }
    }

    /** A FAULT empties THE TAPE and changes nothing else. */
    private static void faultIsNoError() {
        due.edge("14", "-10 less the FAULT (no ERROR; the one ahead stays; THE TAPE is empty, too).");
        for (int use = 0; use < 2; use++) {
            for (int round = 0; round < ROUNDS; round++) {
                OffForSecond x = new OffForSecond();
                OffForSecond y = new OffForSecond();
                Crowd.withAll(x);
                Crowd.withAll(y);
                due.is("a fault of USE " + use, x.text(use), use == 0 ? -15 : -10);
                due.is("the other USE has a fault, too", y.text(1 - use), use == 0 ? -10 : -15);
                for (int k = 1; k <= 6; k++) {
                    due.is("no ERROR " + k, x.told(k), y.told(k));
                }
                due.is("THE TAPE is empty", x.count(8), 0);
                alike("a fault, then round " + round, x, y, round, false);
            }
        }
    }
}
