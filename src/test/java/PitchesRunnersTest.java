/** Promises 1 to 12: a new object, pitches, runners. */
public final class PitchesRunnersTest {
    private static final Due due = new Due();

    public static void main(String[] args) {
        newObject();
        pitch();
        pitchIs();
        become();
        as();
        weighs();
        runner();
        runnerIs();
        leads();
        set();
        steal();
        stealHolds();
        over();
        due.end("PitchesRunnersTest");
    }

    private static void newObject() {
        OffForSecond x = new OffForSecond();
        int[] first = {0, 0, 0, 0, 0, 100, 130, 0, 0, 0, 0, 1};
        for (int i = 0; i < first.length; i++) {
            due.is("1: count " + i, x.count(i), first[i]);
        }
        for (int k = 1; k <= 6; k++) {
            due.is("1: told " + k, x.told(k), 0);
        }
        due.is("1: no TEXT 0", x.untell(0), 0);
        due.is("1: no TEXT 1", x.untell(1), 0);
        due.is("1: no IMAGE", x.restore(), Due.NONE);
        due.is("1: no SHEET", x.put(0, 0, 0), Due.NONE);
        due.is("1: no BODY", x.body(0), Due.NONE);
        due.is("1: no PITCH", x.pitchIs(0, 0), Due.BEYOND);
        due.is("1: no RUNNER", x.runnerIs(0, 0), Due.BEYOND);
        OffForSecond y = new OffForSecond();
        x.pitch(0, 0);
        due.is("1: objects stand apart", y.count(0), 0);
    }

    private static void pitch() {
        OffForSecond x = new OffForSecond();
        int[] wrong = {-1, 70, 100, Integer.MIN_VALUE, Integer.MAX_VALUE};
        for (int km : wrong) {
            due.is("2: km " + km, x.pitch(km, 1), Due.BEYOND);
        }
        due.is("2: weight -1", x.pitch(0, -1), Due.BEYOND);
        due.is("2: weight 10", x.pitch(0, 10), Due.BEYOND);
        due.is("2: none came", x.count(0), 0);
        int[] right = {0, 69, 15, 23, 38, 40};
        for (int i = 0; i < 6; i++) {
            due.is("2: pitch " + right[i], x.pitch(right[i], 9 - i), i);
            due.is("2: KIND", x.pitchIs(i, 0), right[i] / 10);
            due.is("2: m", x.pitchIs(i, 1), right[i] % 10);
            due.is("2: WEIGHT", x.pitchIs(i, 2), 9 - i);
            due.is("2: THROWN", x.pitchIs(i, 3), 0);
        }
        due.is("2: a seventh", x.pitch(0, 0), Due.FULL);
        due.is("2: BEYOND ahead of FULL", x.pitch(70, 0), Due.BEYOND);
        due.is("2: six", x.count(0), 6);
        due.is("2: told FULL", x.told(4), 1);
    }

    private static void pitchIs() {
        OffForSecond x = new OffForSecond();
        int[] km = {3, 14, 25, 36, 47, 58};
        int[] air = {48, 64, 45, 33, 67, 48};
        int[] costs = {0, 0, 0, 11, 1, 0};
        for (int i = 0; i < 6; i++) {
            x.pitch(km[i], i);
            due.is("3: AIR " + km[i], x.pitchIs(i, 4), air[i]);
            due.is("3: COSTS " + km[i], x.pitchIs(i, 5), costs[i]);
        }
        x.set(2, 9);
        x.set(3, 2);
        int[] airThen = {48, 64, 45, 33, 85, 50};
        int[] costsThen = {0, 2, 0, 11, 3, 0};
        for (int i = 0; i < 6; i++) {
            due.is("3: AIR when wet " + km[i], x.pitchIs(i, 4), airThen[i]);
            due.is("3: COSTS when wet " + km[i], x.pitchIs(i, 5), costsThen[i]);
        }
        x.become(0, 64);
        due.is("3: AIR of SPIT", x.pitchIs(0, 4), 49);
        due.is("3: COSTS of SPIT", x.pitchIs(0, 5), 9);
        x.runner(0, 10);
        for (int often = 1; often <= 11; often++) {
            x.steal(0, 0);
            due.is("3: THROWN", x.pitchIs(0, 3), often);
            due.is("3: AIR of SPIT by THROWN", x.pitchIs(0, 4), 49 + often % 5);
        }
        due.is("3: what -1", x.pitchIs(0, -1), Due.BEYOND);
        due.is("3: what 6", x.pitchIs(0, 6), Due.BEYOND);
        due.is("3: pitch 6", x.pitchIs(6, 0), Due.BEYOND);
        for (int extreme : Due.EXTREMES) {
            due.is("3: pitch " + extreme, x.pitchIs(extreme, 0), Due.BEYOND);
            due.is("3: what " + extreme, x.pitchIs(0, extreme), Due.BEYOND);
        }
    }

    private static void become() {
        OffForSecond x = new OffForSecond();
        due.is("4: none there", x.become(0, 0), Due.BEYOND);
        x.pitch(57, 4);
        x.runner(0, 10);
        x.steal(0, 0);
        due.is("4: was CUTTER", x.become(0, 31), 5);
        due.is("4: KIND", x.pitchIs(0, 0), 3);
        due.is("4: m", x.pitchIs(0, 1), 1);
        due.is("4: WEIGHT stays", x.pitchIs(0, 2), 4);
        due.is("4: THROWN stays", x.pitchIs(0, 3), 1);
        due.is("4: km 70", x.become(0, 70), Due.BEYOND);
        due.is("4: km -1", x.become(0, -1), Due.BEYOND);
        due.is("4: pitch 1", x.become(1, 0), Due.BEYOND);
        due.is("4: pitch -1", x.become(-1, 0), Due.BEYOND);
        due.is("4: was WIDE", x.become(0, 0), 3);
        due.is("4: was PITCH", x.become(0, 69), 0);
    }

    private static void as() {
        OffForSecond x = new OffForSecond();
        boolean[][] under = {
            {true, false, false, false, false, false, false},
            {true, true, false, false, false, false, false},
            {true, false, true, false, false, false, false},
            {true, false, false, true, false, false, false},
            {true, true, false, false, true, false, false},
            {true, false, true, false, false, true, false},
            {true, false, false, false, false, false, true},
        };
        x.pitch(0, 0);
        for (int kind = 0; kind < 7; kind++) {
            x.become(0, kind * 10 + kind + 2);
            for (int upper = 0; upper < 7; upper++) {
                due.is("5: " + kind + " as " + upper, x.as(0, upper), under[kind][upper] ? kind + 2 : Due.KIND);
            }
        }
        due.is("5: kind 7", x.as(0, 7), Due.BEYOND);
        due.is("5: kind -1", x.as(0, -1), Due.BEYOND);
        due.is("5: pitch 1", x.as(1, 0), Due.BEYOND);
        due.is("5: pitch -1", x.as(-1, 0), Due.BEYOND);
        due.is("5: told KIND", x.told(5), 34);
    }

    private static void weighs() {
        OffForSecond x = new OffForSecond();
        x.pitch(5, 3);
        due.is("6: was 3", x.weighs(0, 9), 3);
        due.is("6: was 9", x.weighs(0, 0), 9);
        due.is("6: weight 10", x.weighs(0, 10), Due.BEYOND);
        due.is("6: weight -1", x.weighs(0, -1), Due.BEYOND);
        due.is("6: pitch 1", x.weighs(1, 1), Due.BEYOND);
        due.is("6: pitch -1", x.weighs(-1, 1), Due.BEYOND);
        due.is("6: WEIGHT", x.pitchIs(0, 2), 0);
    }

    private static void runner() {
        OffForSecond x = new OffForSecond();
        due.is("7: start -1", x.runner(-1, 30), Due.BEYOND);
        due.is("7: start 100", x.runner(100, 30), Due.BEYOND);
        due.is("7: pace 0", x.runner(0, 0), Due.BEYOND);
        due.is("7: pace 61", x.runner(0, 61), Due.BEYOND);
        int[][] right = {{0, 1}, {99, 60}, {5, 6}, {7, 8}, {9, 10}};
        for (int i = 0; i < 5; i++) {
            due.is("7: runner " + i, x.runner(right[i][0], right[i][1]), i);
        }
        due.is("7: a sixth", x.runner(0, 1), Due.FULL);
        due.is("7: BEYOND ahead of FULL", x.runner(0, 0), Due.BEYOND);
        due.is("7: five", x.count(1), 5);
        for (int i = 0; i < 5; i++) {
            due.is("7: START", x.runnerIs(i, 0), right[i][0]);
            due.is("7: PACE", x.runnerIs(i, 1), right[i][1]);
        }
    }

    private static void runnerIs() {
        OffForSecond x = new OffForSecond();
        x.runner(20, 35);
        for (int what = 2; what <= 4; what++) {
            due.is("8: at first " + what, x.runnerIs(0, what), 0);
        }
        due.is("8: RUN from 0", x.runnerIs(0, 5), 335);
        x.leads(0, 17);
        due.is("8: RUN from 17, cut", x.runnerIs(0, 5), 20 + 255);
        due.is("8: LEAD", x.runnerIs(0, 2), 17);
        due.is("8: at 17 he is not PICKED", x.runnerIs(0, 6), 0);
        x.leads(0, 18);
        due.is("8: 83 are above 80", x.runnerIs(0, 6), 1);
        x.set(0, 105);
        due.is("8: 83 are above 82", x.runnerIs(0, 6), 1);
        x.set(0, 106);
        due.is("8: 83 are not above 83", x.runnerIs(0, 6), 0);
        due.is("8: what 7", x.runnerIs(0, 7), Due.BEYOND);
        due.is("8: what -1", x.runnerIs(0, -1), Due.BEYOND);
        due.is("8: runner 1", x.runnerIs(1, 0), Due.BEYOND);
        for (int extreme : Due.EXTREMES) {
            due.is("8: runner " + extreme, x.runnerIs(extreme, 0), Due.BEYOND);
        }
    }

    private static void leads() {
        OffForSecond x = new OffForSecond();
        x.runner(20, 35);
        due.is("9: was 0", x.leads(0, 20), 0);
        due.is("9: was 20", x.leads(0, 0), 20);
        due.is("9: feet 21", x.leads(0, 21), Due.BEYOND);
        due.is("9: feet -1", x.leads(0, -1), Due.BEYOND);
        due.is("9: runner 1", x.leads(1, 0), Due.BEYOND);
        due.is("9: runner -1", x.leads(-1, 0), Due.BEYOND);
        due.is("9: LEAD", x.runnerIs(0, 2), 0);
    }

    private static void set() {
        OffForSecond x = new OffForSecond();
        int[] first = {100, 130, 0, 0};
        int[] most = {200, 200, 9, 2};
        int[] at = {5, 6, 7, 2};
        for (int what = 0; what < 4; what++) {
            due.is("10: was at first", x.set(what, most[what]), first[what]);
            due.is("10: count", x.count(at[what]), most[what]);
            due.is("10: above the most", x.set(what, most[what] + 1), Due.BEYOND);
            due.is("10: below 0", x.set(what, -1), Due.BEYOND);
            due.is("10: count stays", x.count(at[what]), most[what]);
            due.is("10: was the most", x.set(what, 0), most[what]);
        }
        due.is("10: what 4", x.set(4, 0), Due.BEYOND);
        due.is("10: what -1", x.set(-1, 0), Due.BEYOND);
    }

    private static void steal() {
        OffForSecond x = new OffForSecond();
        x.pitch(5, 3);
        x.runner(20, 35);
        x.leads(0, 16);
        due.is("11: SAFE", x.steal(0, 0), 1);
        due.is("11: STOLEN", x.runnerIs(0, 3), 1);
        due.is("11: LEAD", x.runnerIs(0, 2), 0);
        due.is("11: THROWN", x.pitchIs(0, 3), 1);
        due.is("11: WORTH", x.count(4), 25);
        due.is("11: OUTS stay", x.count(2), 0);
        x.leads(0, 15);
        due.is("11: not SAFE", x.steal(0, 0), 0);
        due.is("11: CAUGHT", x.runnerIs(0, 4), 1);
        due.is("11: STOLEN stays", x.runnerIs(0, 3), 1);
        due.is("11: LEAD again", x.runnerIs(0, 2), 0);
        due.is("11: WORTH again", x.count(4), -25);
        due.is("11: OUTS", x.count(2), 1);
        due.is("11: out", x.steal(0, 0), 0);
        due.is("11: OUTS 2", x.count(2), 2);
        due.is("11: INNINGS 0", x.count(3), 0);
        due.is("11: third out", x.steal(0, 0), 0);
        due.is("11: OUTS 0", x.count(2), 0);
        due.is("11: INNINGS 1", x.count(3), 1);
        due.is("11: THROWN 4", x.pitchIs(0, 3), 4);
        due.is("11: runner 1", x.steal(1, 0), Due.BEYOND);
        due.is("11: pitch 1", x.steal(0, 1), Due.BEYOND);
        due.is("11: pitch -1", x.steal(0, -1), Due.BEYOND);
        due.is("11: nothing came of it", x.count(2), 0);
        due.is("11: a TEXT", Due.tellText(x, 1, "o*10+s"), 1);
        x.set(3, 2);
        x.steal(0, 0);
        due.is("11: GAIN by OUTS as they were", x.count(4), -125 + 20);
        spitGoesByThrownAsItWas();
    }

    private static void spitGoesByThrownAsItWas() {
        OffForSecond x = new OffForSecond();
        x.pitch(60, 1);
        x.runner(5, 30);
        // 100 + 45 + 130 less 5 + 30 * 90 / 10 is 0 feet's 0: with one THROWN more it were 1
        due.is("11: margin", x.margin(0, 0, 0), 0);
        due.is("11: its TEXT", Due.tellText(x, 1, "m"), 1);
        due.is("11: SAFE by 0", x.steal(0, 0), 1);
        due.is("11: WORTH by 0", x.count(4), 0);
        due.is("11: SAFE by 1", x.steal(0, 0), 1);
        due.is("11: WORTH by 1", x.count(4), 1);
    }

    private static void stealHolds() {
        OffForSecond x = new OffForSecond();
        x.pitch(0, 1);
        x.runner(0, 1);
        x.runner(99, 60);
        Due.tellText(x, 1, "s*198-99");
        for (int i = 0; i < 102; i++) {
            x.steal(0, 0);
        }
        due.is("11: WORTH is held above", x.count(4), 9999);
        x.steal(1, 0);
        due.is("11: WORTH less 99", x.count(4), 9900);
        for (int i = 0; i < 205; i++) {
            x.steal(1, 0);
        }
        due.is("11: WORTH is held below", x.count(4), -9999);
        due.is("11: CAUGHT", x.runnerIs(1, 4), 206);
        due.is("11: INNINGS", x.count(3), 68);
        due.is("11: OUTS", x.count(2), 2);
    }

    private static void over() {
        OffForSecond x = new OffForSecond();
        x.pitch(0, 1);
        x.runner(60, 45);
        x.runner(0, 1);
        due.is("12: back in time", x.over(0), 0);
        due.is("12: nobody CAUGHT", x.runnerIs(0, 4), 0);
        x.leads(1, 3);
        due.is("12: the slow one back", x.over(1), 0);
        due.is("12: his LEAD stays", x.runnerIs(1, 2), 3);
        x.leads(0, 5);
        due.is("12: PICKED", x.over(0), 1);
        due.is("12: CAUGHT", x.runnerIs(0, 4), 1);
        due.is("12: LEAD", x.runnerIs(0, 2), 0);
        due.is("12: OUTS", x.count(2), 1);
        due.is("12: WORTH stays", x.count(4), 0);
        due.is("12: THROWN stays", x.pitchIs(0, 3), 0);
        x.set(3, 2);
        x.leads(0, 20);
        due.is("12: PICKED again", x.over(0), 1);
        due.is("12: OUTS 0", x.count(2), 0);
        due.is("12: INNINGS", x.count(3), 1);
        due.is("12: runner 2", x.over(2), Due.BEYOND);
        due.is("12: runner -1", x.over(-1), Due.BEYOND);
    }
}
