/** The sentences of paragraph 1 and of promises 1 to 12 that name a boundary, each with a test of its own. */
public final class PitchesRunnersEdgesTest {
    private static final Due due = new Due();

    public static void main(String[] args) {
        sixPitches();
        kindsAndM();
        weightOfPitch();
        becomes();
        isOfKind();
        weighs();
        fiveRunners();
        startAndPace();
        lead();
        runIsCut();
        pickedIsAbove();
        pickedIsCut();
        settings();
        airByLeastAndMostM();
        wetAndOutsInAir();
        wideLessM();
        spitByFive();
        costs();
        whats();
        safeIsZeroOrMore();
        thirdOut();
        thrownAndStolenAreHeld();
        caughtIsHeld();
        worthIsHeldAbove();
        worthIsHeldBelow();
        overAtTheEdge();
        due.end("PitchesRunnersEdgesTest");
    }

    private static OffForSecond withPitch(int km) {
        OffForSecond x = new OffForSecond();
        x.pitch(km, 1);
        return x;
    }

    private static OffForSecond withRunner(int start, int pace) {
        OffForSecond x = new OffForSecond();
        x.runner(start, pace);
        return x;
    }

    private static void sixPitches() {
        due.edge("2", "(at most 6)");
        OffForSecond x = new OffForSecond();
        for (int i = 0; i < 6; i++) {
            due.is("not there yet", x.pitchIs(i, 0), Due.BEYOND);
            due.is("the number", x.pitch(i, 0), i);
            due.is("there now", x.pitchIs(i, 1), i);
        }
        due.is("a seventh", x.pitch(0, 0), Due.FULL);
        due.is("still six", x.count(0), 6);
        due.is("no seventh", x.pitchIs(6, 0), Due.BEYOND);
        due.is("none below the first", x.pitchIs(-1, 0), Due.BEYOND);
    }

    private static void kindsAndM() {
        due.edge("2", "(km: 10 times the KIND, and m)");
        int[][] right = {{0, 0, 0}, {9, 0, 9}, {10, 1, 0}, {19, 1, 9}, {59, 5, 9}, {60, 6, 0}, {69, 6, 9}};
        for (int[] each : right) {
            OffForSecond x = withPitch(each[0]);
            due.is("KIND of " + each[0], x.pitchIs(0, 0), each[1]);
            due.is("m of " + each[0], x.pitchIs(0, 1), each[2]);
        }
        OffForSecond x = new OffForSecond();
        int[] wrong = {-1, -9, -10, 70, 79, 256, 69 + 65536, Integer.MIN_VALUE, Integer.MAX_VALUE};
        for (int km : wrong) {
            due.is("km " + km, x.pitch(km, 0), Due.BEYOND);
        }
        due.is("none came", x.count(0), 0);
        due.is("69", x.pitch(69, 0), 0);
    }

    private static void weightOfPitch() {
        due.edge("2", "a WEIGHT (0 .. 9)");
        OffForSecond x = new OffForSecond();
        due.is("0", x.pitch(0, 0), 0);
        due.is("9", x.pitch(0, 9), 1);
        due.is("is 0", x.pitchIs(0, 2), 0);
        due.is("is 9", x.pitchIs(1, 2), 9);
        int[] wrong = {-1, 10, Integer.MIN_VALUE, Integer.MAX_VALUE};
        for (int weight : wrong) {
            due.is("weight " + weight, x.pitch(0, weight), Due.BEYOND);
        }
        due.is("two", x.count(0), 2);
    }

    private static void becomes() {
        due.edge("4", "A PITCH becomes one of a KIND, with m (km)");
        OffForSecond x = withPitch(35);
        due.is("70", x.become(0, 70), Due.BEYOND);
        due.is("-1", x.become(0, -1), Due.BEYOND);
        due.is("stays WIDE", x.pitchIs(0, 0), 3);
        due.is("stays 5", x.pitchIs(0, 1), 5);
        due.is("0", x.become(0, 0), 3);
        due.is("m 0", x.pitchIs(0, 1), 0);
        due.is("69", x.become(0, 69), 0);
        due.is("KIND 6", x.pitchIs(0, 0), 6);
        due.is("m 9", x.pitchIs(0, 1), 9);
        due.is("no PITCH 1", x.become(1, 0), Due.BEYOND);
        due.is("no PITCH -1", x.become(-1, 0), Due.BEYOND);
    }

    private static void isOfKind() {
        due.edge("5", "KIND: it isn't of that KIND, nor of one under it.");
        OffForSecond x = withPitch(48);
        due.is("0", x.as(0, 0), 8);
        due.is("the KIND above", x.as(0, 1), 8);
        due.is("its own", x.as(0, 4), 8);
        due.is("6", x.as(0, 6), Due.KIND);
        due.is("7", x.as(0, 7), Due.BEYOND);
        due.is("-1", x.as(0, -1), Due.BEYOND);
        x.become(0, 11);
        due.is("one under it is another KIND", x.as(0, 4), Due.KIND);
        x.become(0, 2);
        due.is("PITCH is no CURVE", x.as(0, 1), Due.KIND);
        due.is("PITCH is one", x.as(0, 0), 2);
        x.become(0, 69);
        due.is("SPIT is no CUTTER", x.as(0, 5), Due.KIND);
        due.is("SPIT is one", x.as(0, 6), 9);
    }

    private static void weighs() {
        due.edge("6", "WEIGHT of a PITCH becomes so: what it was. BEYOND.");
        OffForSecond x = withPitch(0);
        due.is("10", x.weighs(0, 10), Due.BEYOND);
        due.is("-1", x.weighs(0, -1), Due.BEYOND);
        due.is("9; was 1", x.weighs(0, 9), 1);
        due.is("0; was 9", x.weighs(0, 0), 9);
        due.is("0", x.pitchIs(0, 2), 0);
        due.is("no PITCH 1", x.weighs(1, 0), Due.BEYOND);
    }

    private static void fiveRunners() {
        due.edge("7", "(at most 5)");
        OffForSecond x = new OffForSecond();
        for (int i = 0; i < 5; i++) {
            due.is("not there yet", x.runnerIs(i, 0), Due.BEYOND);
            due.is("the number", x.runner(i, 1), i);
            due.is("there now", x.runnerIs(i, 0), i);
        }
        due.is("a sixth", x.runner(0, 1), Due.FULL);
        due.is("still five", x.count(1), 5);
        due.is("no sixth", x.runnerIs(5, 0), Due.BEYOND);
        due.is("none below the first", x.runnerIs(-1, 0), Due.BEYOND);
    }

    private static void startAndPace() {
        due.edge("7", "START (0 .. 99), PACE (1 .. 60, for ten feet)");
        OffForSecond x = new OffForSecond();
        int[][] wrong = {{-1, 1}, {100, 1}, {0, 0}, {0, 61}, {0, -1}, {Integer.MIN_VALUE, 1}, {Integer.MAX_VALUE, 1}, {0, Integer.MIN_VALUE}, {0, Integer.MAX_VALUE}};
        for (int[] each : wrong) {
            due.is(each[0] + ", " + each[1], x.runner(each[0], each[1]), Due.BEYOND);
        }
        due.is("none came", x.count(1), 0);
        int[][] right = {{0, 1}, {99, 1}, {0, 60}, {99, 60}};
        for (int i = 0; i < 4; i++) {
            due.is(right[i][0] + ", " + right[i][1], x.runner(right[i][0], right[i][1]), i);
            due.is("START", x.runnerIs(i, 0), right[i][0]);
            due.is("PACE", x.runnerIs(i, 1), right[i][1]);
        }
    }

    private static void lead() {
        due.edge("9", "LEAD (0 .. 20 feet; 0 at first)");
        OffForSecond x = withRunner(0, 1);
        due.is("0 at first", x.runnerIs(0, 2), 0);
        due.is("21", x.leads(0, 21), Due.BEYOND);
        due.is("-1", x.leads(0, -1), Due.BEYOND);
        due.is("20; was 0", x.leads(0, 20), 0);
        due.is("21 again", x.leads(0, 21), Due.BEYOND);
        due.is("20", x.runnerIs(0, 2), 20);
        due.is("0; was 20", x.leads(0, 0), 20);
        due.is("0", x.runnerIs(0, 2), 0);
    }

    private static void runIsCut() {
        due.edge("8", "RUN from f feet: START, and PACE times (90 less f) by 10 (cut).");
        int[][] runs = {{0, 1, 0, 9}, {0, 1, 1, 8}, {0, 1, 10, 8}, {0, 1, 11, 7}, {0, 1, 20, 7}, {99, 60, 0, 639}, {99, 60, 20, 519},
            {0, 59, 1, 525}, {3, 59, 19, 3 + 418}};
        for (int[] each : runs) {
            OffForSecond x = withRunner(each[0], each[1]);
            x.leads(0, each[2]);
            due.is("START " + each[0] + " PACE " + each[1] + " from " + each[2], x.runnerIs(0, 5), each[3]);
        }
    }

    private static void picked(int start, int pace, int feet, int lift, int want) {
        OffForSecond x = withRunner(start, pace);
        x.leads(0, feet);
        x.set(0, lift);
        due.is("START " + start + " PACE " + pace + " at " + feet + " LIFT " + lift, x.runnerIs(0, 6), want);
    }

    private static void pickedIsAbove() {
        due.edge("8", "are above LIFT by 2 (cut) and 30");
        picked(30, 1, 0, 0, 0);
        picked(31, 1, 0, 0, 1);
        picked(31, 1, 0, 1, 1);
        picked(31, 1, 0, 2, 0);
        picked(32, 1, 0, 3, 1);
        picked(98, 16, 20, 200, 0);
        picked(99, 16, 20, 200, 1);
        picked(98, 16, 20, 199, 1);
        picked(97, 16, 20, 199, 0);
        picked(0, 60, 5, 0, 0);
        picked(0, 60, 6, 0, 1);
    }

    private static void pickedIsCut() {
        due.edge("8", "START and PACE times f by 10 (cut)");
        picked(30, 1, 9, 0, 0);
        picked(30, 1, 10, 0, 1);
        picked(29, 1, 10, 0, 0);
        picked(29, 1, 19, 0, 0);
        picked(29, 1, 20, 0, 1);
        picked(21, 7, 14, 0, 0);
        picked(21, 7, 15, 0, 1);
    }

    private static void settings() {
        String[] words = {"LIFT (0 .. 200; 100 at first)", "POP (the catcher's; 0 .. 200; 130 at first)", "WET (0 .. 9; 0 at first)",
            "OUTS (0 .. 2; 0 at first)"};
        int[] most = {200, 200, 9, 2};
        int[] first = {100, 130, 0, 0};
        int[] at = {5, 6, 7, 2};
        for (int what = 0; what < 4; what++) {
            due.edge("10", words[what]);
            OffForSecond x = new OffForSecond();
            due.is("at first", x.count(at[what]), first[what]);
            due.is("one too much", x.set(what, most[what] + 1), Due.BEYOND);
            due.is("-1", x.set(what, -1), Due.BEYOND);
            due.is("far too much", x.set(what, Integer.MAX_VALUE), Due.BEYOND);
            due.is("far too little", x.set(what, Integer.MIN_VALUE), Due.BEYOND);
            due.is("as at first", x.set(what, most[what]), first[what]);
            due.is("the most", x.set(what, 0), most[what]);
            due.is("0", x.count(at[what]), 0);
        }
        due.edge("10", "LIFT (what 0), POP (1), WET (2), OUTS (3) becomes v");
        OffForSecond x = new OffForSecond();
        due.is("what 4", x.set(4, 0), Due.BEYOND);
        due.is("what -1", x.set(-1, 0), Due.BEYOND);
    }

    private static void airByLeastAndMostM() {
        due.edge("3", "AIR by KIND: PITCH: 45 and m. CURVE: as PITCH, and 15. HARD: as PITCH, less 5.");
        int[] least = {45, 60, 40, 33, 60, 40, 45};
        int[] most = {54, 69, 49, 33, 69, 49, 54};
        for (int kind = 0; kind < 7; kind++) {
            OffForSecond x = withPitch(10 * kind);
            due.is("KIND " + kind + ", m 0", x.pitchIs(0, 4), least[kind]);
            x.become(0, 10 * kind + 9);
            due.is("KIND " + kind + ", m 9", x.pitchIs(0, 4), most[kind]);
        }
    }

    private static void wetAndOutsInAir() {
        due.edge("3", "SLOW: as CURVE, and twice WET. CUTTER: as HARD, and OUTS.");
        OffForSecond x = withPitch(49);
        x.pitch(50, 1);
        due.is("SLOW 9, WET 0", x.pitchIs(0, 4), 45 + 9 + 15);
        due.is("CUTTER 0, OUTS 0", x.pitchIs(1, 4), 40);
        x.set(2, 9);
        x.set(3, 2);
        due.is("SLOW 9, WET 9", x.pitchIs(0, 4), 45 + 9 + 15 + 18);
        due.is("CUTTER 0, OUTS 2", x.pitchIs(1, 4), 42);
    }

    private static void wideLessM() {
        due.edge("3", "WIDE: as PITCH, less 12, less m.");
        OffForSecond x = withPitch(30);
        due.is("m 0", x.pitchIs(0, 4), 33);
        x.become(0, 39);
        due.is("m 9", x.pitchIs(0, 4), 33);
    }

    private static void spitByFive() {
        due.edge("3", "SPIT: as PITCH, and the rest of THROWN by 5.");
        OffForSecond x = withPitch(60);
        x.runner(0, 1);
        for (int thrown = 0; thrown < 11; thrown++) {
            due.is("THROWN " + thrown, x.pitchIs(0, 4), 45 + thrown % 5);
            x.steal(0, 0);
        }
    }

    private static void costs() {
        due.edge("3", "COSTS: PITCH, HARD, CUTTER: 0. CURVE: OUTS. WIDE: 5 and m. SLOW: as CURVE, and 1. SPIT: WET.");
        int[] kms = {9, 19, 29, 30, 39, 49, 59, 69};
        int[] least = {0, 0, 0, 5, 14, 1, 0, 0};
        int[] most = {0, 2, 0, 5, 14, 3, 0, 9};
        for (int i = 0; i < kms.length; i++) {
            OffForSecond x = withPitch(kms[i]);
            due.is("at first, of " + kms[i], x.pitchIs(0, 5), least[i]);
            x.set(2, 9);
            x.set(3, 2);
            due.is("WET 9, OUTS 2, of " + kms[i], x.pitchIs(0, 5), most[i]);
        }
    }

    private static void whats() {
        due.edge("3", "Of a PITCH: 0 KIND, 1 m, 2 WEIGHT, 3 THROWN, 4 AIR, 5 COSTS now. BEYOND.");
        OffForSecond x = withPitch(31);
        x.runner(99, 60);
        int[] ofPitch = {3, 1, 1, 0, 33, 6};
        int[] ofRunner = {99, 60, 0, 0, 0, 639, 1};
        x.set(0, 137);
        for (int what = 0; what < 6; what++) {
            due.is("what " + what, x.pitchIs(0, what), ofPitch[what]);
        }
        due.is("what 6", x.pitchIs(0, 6), Due.BEYOND);
        due.is("what -1", x.pitchIs(0, -1), Due.BEYOND);
        due.edge("8", "5 RUN from his LEAD, 6 whether he is PICKED there (1, 0). BEYOND.");
        for (int what = 0; what < 7; what++) {
            due.is("what " + what, x.runnerIs(0, what), ofRunner[what]);
        }
        due.is("what 7", x.runnerIs(0, 7), Due.BEYOND);
        due.is("what -1", x.runnerIs(0, -1), Due.BEYOND);
        x.set(0, 138);
        due.is("99 are not above 99", x.runnerIs(0, 6), 0);
    }

    private static void safeIsZeroOrMore() {
        due.edge("11", "SAFE is who has 0 or more");
        OffForSecond x = withPitch(0);
        x.runner(0, 30);
        x.set(1, 125);
        due.is("MARGIN 0", x.margin(0, 0, 0), 0);
        due.is("SAFE", x.steal(0, 0), 1);
        x.set(1, 124);
        due.is("MARGIN -1", x.margin(0, 0, 0), -1);
        due.is("not SAFE", x.steal(0, 0), 0);
        due.is("STOLEN", x.runnerIs(0, 3), 1);
        due.is("CAUGHT", x.runnerIs(0, 4), 1);
        due.is("THROWN for both", x.pitchIs(0, 3), 2);
    }

    private static void thirdOut() {
        due.edge("11", "OUTS are 1 more; if they are 3 then, they are 0, and INNINGS is 1 more");
        OffForSecond x = withPitch(0);
        x.runner(99, 60);
        int[] outs = {1, 2, 0, 1, 2, 0};
        int[] innings = {0, 0, 1, 1, 1, 2};
        for (int i = 0; i < 6; i++) {
            due.is("OUT", x.steal(0, 0), 0);
            due.is("OUTS", x.count(2), outs[i]);
            due.is("INNINGS", x.count(3), innings[i]);
        }
        x.set(3, 2);
        x.leads(0, 20);
        due.is("OUT by PICKED", x.over(0), 1);
        due.is("OUTS then", x.count(2), 0);
        due.is("INNINGS then", x.count(3), 3);
        due.is("LEAD", x.runnerIs(0, 2), 0);
    }

    // INNINGS can't come to 9999 within 512 calls: 30 of one are OUT at most with each, 3 make an inning.

    private static void thrownAndStolenAreHeld() {
        due.edge("11", "(all of THROWN, STOLEN, CAUGHT, INNINGS held at 9999)");
        OffForSecond x = withPitch(60);
        x.runner(0, 1);
        for (int i = 0; i < 333; i++) {
            x.loose(30);
        }
        for (int often = 9991; often <= 9999; often++) {
            due.is("SAFE", x.steal(0, 0), 1);
            due.is("THROWN", x.pitchIs(0, 3), often);
            due.is("STOLEN", x.runnerIs(0, 3), often);
        }
        due.is("SAFE once more", x.steal(0, 0), 1);
        due.is("THROWN is held", x.pitchIs(0, 3), 9999);
        due.is("STOLEN is held", x.runnerIs(0, 3), 9999);
        due.is("AIR of SPIT by 9999", x.pitchIs(0, 4), 49);
        due.is("nobody CAUGHT", x.runnerIs(0, 4), 0);
    }

    private static void caughtIsHeld() {
        due.edge("11", "(all of THROWN, STOLEN, CAUGHT, INNINGS held at 9999)");
        OffForSecond x = withPitch(0);
        x.runner(99, 60);
        for (int i = 0; i < 333; i++) {
            x.loose(30);
        }
        for (int often = 9991; often <= 9999; often++) {
            due.is("not SAFE", x.steal(0, 0), 0);
            due.is("CAUGHT", x.runnerIs(0, 4), often);
        }
        due.is("INNINGS", x.count(3), 3333);
        due.is("not SAFE once more", x.steal(0, 0), 0);
        due.is("CAUGHT is held", x.runnerIs(0, 4), 9999);
        due.is("OUTS go on", x.count(2), 1);
        x.leads(0, 20);
        x.set(0, 0);
        due.is("PICKED", x.over(0), 1);
        due.is("CAUGHT is held by over, too", x.runnerIs(0, 4), 9999);
        due.is("OUTS go on by over, too", x.count(2), 2);
    }

    /** WORTH 99 times 100 and what is left to 9999, then one more. */
    private static void worthIsHeld(int sign) {
        OffForSecond x = withPitch(0);
        x.runner(0, 1);
        Due.tellText(x, 1, sign > 0 ? "99" : "0-99");
        for (int i = 0; i < 100; i++) {
            x.steal(0, 0);
        }
        Due.tellText(x, 1, sign > 0 ? "98" : "0-98");
        x.steal(0, 0);
        due.is("9998", x.count(4), sign * 9998);
        Due.tellText(x, 1, sign > 0 ? "1" : "0-1");
        x.steal(0, 0);
        due.is("9999", x.count(4), sign * 9999);
        x.steal(0, 0);
        due.is("held", x.count(4), sign * 9999);
        Due.tellText(x, 1, sign > 0 ? "0-1" : "1");
        x.steal(0, 0);
        due.is("one back", x.count(4), sign * 9998);
        Due.tellText(x, 1, sign > 0 ? "99" : "0-99");
        x.steal(0, 0);
        due.is("held from far", x.count(4), sign * 9999);
    }

    private static void worthIsHeldAbove() {
        due.edge("11", "WORTH is GAIN more (held within -9999 .. 9999)");
        worthIsHeld(1);
    }

    private static void worthIsHeldBelow() {
        due.edge("11", "WORTH (-9999 .. 9999; 0 at first)");
        worthIsHeld(-1);
    }

    private static void overAtTheEdge() {
        due.edge("12", "1, if the RUNNER is PICKED (he is OUT); 0.");
        OffForSecond x = withRunner(30, 10);
        x.set(0, 0);
        due.is("30 are not above 30", x.over(0), 0);
        x.leads(0, 1);
        due.is("31 are", x.over(0), 1);
        due.is("LEAD is 0", x.runnerIs(0, 2), 0);
        due.is("CAUGHT", x.runnerIs(0, 4), 1);
        due.is("not once more", x.over(0), 0);
        x.leads(0, 1);
        x.set(0, 2);
        due.is("31 are not above 31", x.over(0), 0);
        due.is("LEAD stays", x.runnerIs(0, 2), 1);
        due.is("no RUNNER 1", x.over(1), Due.BEYOND);
        due.is("no RUNNER -1", x.over(-1), Due.BEYOND);
    }
}
