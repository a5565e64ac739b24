/** Promises 17 to 26: what would be. */
public final class WouldBeTest {
    private static final Due due = new Due();

    public static void main(String[] args) {
        margin();
        leadFor();
        bestLead();
        bestLeadPicked();
        safeByNothing();
        odds();
        go();
        duel();
        surely();
        fits();
        loose();
        looseHolds();
        seed();
        due.end("WouldBeTest");
    }

    /** Two PITCHES (AIR 50 and 33; WEIGHTS 3 and 1) and one RUNNER, SAFE on the first from 16 feet on. */
    private static OffForSecond usual() {
        OffForSecond x = new OffForSecond();
        x.pitch(5, 3);
        x.pitch(36, 1);
        x.runner(20, 35);
        return x;
    }

    private static void margin() {
        OffForSecond x = usual();
        due.is("17: from 0", x.margin(0, 0, 0), -55);
        due.is("17: from 20", x.margin(0, 0, 20), 15);
        due.is("17: from 1, cut", x.margin(0, 0, 1), -51);
        due.is("17: WIDE", x.margin(0, 1, 20), -2);
        x.leads(0, 9);
        due.is("17: LEAD doesn't matter", x.margin(0, 0, 0), -55);
        x.set(0, 200);
        x.set(1, 0);
        due.is("17: LIFT and POP", x.margin(0, 0, 0), 200 + 50 - 335);
        due.is("17: 21 feet", x.margin(0, 0, 21), Due.BEYOND);
        due.is("17: -1 feet", x.margin(0, 0, -1), Due.BEYOND);
        due.is("17: pitch 2", x.margin(0, 2, 0), Due.BEYOND);
        due.is("17: pitch -1", x.margin(0, -1, 0), Due.BEYOND);
        due.is("17: runner 1", x.margin(1, 0, 0), Due.BEYOND);
        due.is("17: runner -1", x.margin(-1, 0, 0), Due.BEYOND);
    }

    private static void leadFor() {
        OffForSecond x = usual();
        due.is("18: 16", x.leadFor(0, 0), 16);
        due.is("18: not by 20", x.leadFor(0, 1), Due.NONE);
        x.set(1, 132);
        due.is("18: by 20", x.leadFor(0, 1), 20);
        x.set(1, 200);
        due.is("18: 0", x.leadFor(0, 0), 0);
        due.is("18: thought only", x.runnerIs(0, 2), 0);
        due.is("18: told", x.told(2), 1);
        due.is("18: pitch 2", x.leadFor(0, 2), Due.BEYOND);
        due.is("18: runner 1", x.leadFor(1, 0), Due.BEYOND);
        due.is("18: runner -1", x.leadFor(-1, 0), Due.BEYOND);
    }

    private static void bestLead() {
        OffForSecond x = usual();
        due.is("19: which", x.bestLead(0, 0), 16);
        due.is("19: how much", x.bestLead(0, 1), 3 * 25 - 50);
        x.weighs(0, 0);
        due.is("19: of several the least", x.bestLead(0, 0), 0);
        due.is("19: by WEIGHT", x.bestLead(0, 1), -50);
        x.weighs(1, 0);
        due.is("19: no WEIGHTS", x.bestLead(0, 1), 0);
        x.weighs(0, 1);
        Due.tellText(x, 1, "m");
        due.is("19: the most he isn't PICKED from", x.bestLead(0, 0), 17);
        due.is("19: how much there", x.bestLead(0, 1), 5);
        Due.tellText(x, 1, "0-m");
        due.is("19: the least m", x.bestLead(0, 0), 0);
        due.is("19: 55", x.bestLead(0, 1), 55);
        due.is("19: thought only", x.runnerIs(0, 2), 0);
        due.is("19: what 2", x.bestLead(0, 2), Due.BEYOND);
        due.is("19: what -1", x.bestLead(0, -1), Due.BEYOND);
        due.is("19: runner 1", x.bestLead(1, 0), Due.BEYOND);
        due.is("19: runner -1", x.bestLead(-1, 0), Due.BEYOND);
    }

    private static void bestLeadPicked() {
        OffForSecond x = usual();
        x.runner(31, 10);
        x.runner(30, 60);
        x.set(0, 0);
        due.is("19: with all he is PICKED", x.bestLead(1, 0), Due.NONE);
        due.is("19: with all, how much", x.bestLead(1, 1), Due.NONE);
        due.is("19: BEYOND ahead of NONE", x.bestLead(1, 2), Due.BEYOND);
        due.is("19: 0 alone is left", x.bestLead(2, 0), 0);
        due.is("19: as much", x.bestLead(2, 1), -200);
    }

    /** MARGIN 0 is SAFE, wherever it is asked. */
    private static void safeByNothing() {
        OffForSecond x = usual();
        x.runner(0, 31);
        x.leads(1, 0);
        x.set(1, 129);
        due.is("17: 0", x.margin(1, 0, 0), 0);
        due.is("18: SAFE by 0", x.leadFor(1, 0), 0);
        due.is("19: SAFE by 0", x.bestLead(1, 1), 3 * 25 + 25);
        due.is("20: SAFE by 0", x.odds(1, 0), 3);
        due.is("21: SAFE by 0", x.go(1, 0), 25);
        due.is("21: SAFE by 0, by 4", x.go(1, 1), 4);
        due.is("22: SAFE by 0", x.duel(1, 0, 0, 0), 25);
        due.is("23: SAFE by 0", x.surely(1, 0), 1);
        x.sheet(0, 8, 1);
        x.put(0, 0, 1);
        due.is("24: SAFE by 0", x.fits(0, 1, 0), 21);
        due.is("11: SAFE by 0", x.steal(1, 0), 1);
        x.set(0, 200);
        Due.tellText(x, 1, "m/5");
        x.set(1, 0);
        due.is("19: the greatest LEAD", x.bestLead(1, 0), 20);
        due.is("19: how much from there", x.bestLead(1, 1), 3 * ((250 - 217) / 5) + (233 - 217) / 5);
    }

    private static void odds() {
        OffForSecond x = usual();
        due.is("20: 0", x.odds(0, 0), 0);
        due.is("20: by 1", x.odds(0, 1), 1);
        x.leads(0, 16);
        due.is("20: 3", x.odds(0, 0), 3);
        due.is("20: by 4", x.odds(0, 1), 4);
        x.weighs(0, 9);
        x.weighs(1, 3);
        due.is("20: 3 of 9", x.odds(0, 0), 3);
        due.is("20: by 4 of 12", x.odds(0, 1), 4);
        x.weighs(1, 0);
        due.is("20: 1", x.odds(0, 0), 1);
        due.is("20: by 1, all", x.odds(0, 1), 1);
        x.weighs(0, 0);
        due.is("20: all 0", x.odds(0, 0), Due.STATE);
        due.is("20: all 0, too", x.odds(0, 1), Due.STATE);
        due.is("20: BEYOND ahead of STATE", x.odds(0, 2), Due.BEYOND);
        due.is("20: runner 1", x.odds(1, 0), Due.BEYOND);
        due.is("20: part -1", x.odds(0, -1), Due.BEYOND);
        due.is("20: told", x.told(3), 2);
    }

    private static void go() {
        OffForSecond x = usual();
        due.is("21: -50", x.go(0, 0), -50);
        due.is("21: by 1", x.go(0, 1), 1);
        x.leads(0, 16);
        due.is("21: 25", x.go(0, 0), 25);
        due.is("21: by 4", x.go(0, 1), 4);
        x.weighs(0, 2);
        due.is("21: 0", x.go(0, 0), 0);
        due.is("21: 0 by 1", x.go(0, 1), 1);
        x.weighs(0, 4);
        x.weighs(1, 6);
        due.is("21: -20", x.go(0, 0), -20);
        due.is("21: by 1 again", x.go(0, 1), 1);
        x.weighs(1, 5);
        due.is("21: -150 by 9", x.go(0, 0), -50);
        due.is("21: by 3", x.go(0, 1), 3);
        x.weighs(0, 0);
        x.weighs(1, 0);
        due.is("21: all 0", x.go(0, 0), Due.STATE);
        due.is("21: BEYOND ahead of STATE", x.go(1, 0), Due.BEYOND);
        due.is("21: part 2", x.go(0, 2), Due.BEYOND);
        due.is("21: part -1", x.go(0, -1), Due.BEYOND);
    }

    private static void duel() {
        OffForSecond x = usual();
        x.leads(0, 16);
        // going 25, -50; staying 0, 11
        due.is("22: 275", x.duel(0, 0, 1, 0), 275);
        due.is("22: by 86", x.duel(0, 0, 1, 1), 86);
        due.is("22: the other way", x.duel(0, 1, 0, 0), 275);
        due.is("22: by 86, too", x.duel(0, 1, 0, 1), 86);
        due.is("22: alike", x.duel(0, 0, 0, 0), 25);
        due.is("22: alike by 1", x.duel(0, 0, 0, 1), 1);
        due.is("22: staying", x.duel(0, 1, 1, 0), 11);
        x.leads(0, 0);
        due.is("22: staying is 0", x.duel(0, 0, 1, 0), 0);
        due.is("22: 0 by 1", x.duel(0, 0, 1, 1), 1);
        x.leads(0, 16);
        Due.tellText(x, 1, "0-s*50-1");
        // going -51, -1; staying 0, 11
        due.is("22: staying is best", x.duel(0, 0, 1, 0), 0);
        Due.tellText(x, 1, "20-s*22");
        // going -2, 20; staying 0, 11: 20 * 0 is above the least of the columns
        due.is("22: the least of staying", x.duel(0, 0, 1, 0), 0);
        x.pitch(30, 1);
        x.pitch(60, 1);
        x.set(2, 9);
        Due.tellText(x, 1, "(m=1)*3+(m=1-17)*7");
        // margins 1, -16, -16 (AIR 33), -4 (AIR 45): going 3, 7 and staying 0, 11 on 0 and 1
        due.is("22: going", x.duel(0, 0, 1, 0), 3);
        // going 7, 0; staying 5, 9 on 2 and 3: 63 by 11
        due.is("22: 63", x.duel(0, 2, 3, 0), 63);
        due.is("22: by 11", x.duel(0, 2, 3, 1), 11);
        due.is("22: 63 the other way", x.duel(0, 3, 2, 0), 63);
        due.is("22: by 11 the other way", x.duel(0, 3, 2, 1), 11);
        due.is("22: part 2", x.duel(0, 0, 1, 2), Due.BEYOND);
        due.is("22: part -1", x.duel(0, 0, 1, -1), Due.BEYOND);
        due.is("22: runner 1", x.duel(1, 0, 1, 0), Due.BEYOND);
        due.is("22: one 4", x.duel(0, 4, 1, 0), Due.BEYOND);
        due.is("22: other 4", x.duel(0, 1, 4, 0), Due.BEYOND);
        due.is("22: other -1", x.duel(0, 1, -1, 0), Due.BEYOND);
    }

    private static void surely() {
        OffForSecond x = usual();
        x.pitch(15, 0);
        due.is("23: none", x.surely(0, 0), 0);
        due.is("23: how many", x.surely(0, 1), 0);
        x.leads(0, 16);
        due.is("23: the set", x.surely(0, 0), 5);
        due.is("23: two", x.surely(0, 1), 2);
        x.set(1, 200);
        due.is("23: all", x.surely(0, 0), 7);
        due.is("23: three", x.surely(0, 1), 3);
        due.is("23: what 2", x.surely(0, 2), Due.BEYOND);
        due.is("23: what -1", x.surely(0, -1), Due.BEYOND);
        due.is("23: runner 1", x.surely(1, 0), Due.BEYOND);
    }

    private static void fits() {
        OffForSecond x = usual();
        due.is("24: missing", x.fits(0, 0, 0), Due.NONE);
        due.is("24: BEYOND ahead of NONE", x.fits(0, 0, 2), Due.BEYOND);
        due.is("24: what -1", x.fits(0, 0, -1), Due.BEYOND);
        due.is("24: sheet 4", x.fits(4, 0, 0), Due.BEYOND);
        due.is("24: sheet -1", x.fits(-1, 0, 0), Due.BEYOND);
        due.is("24: runner 1", x.fits(0, 1, 0), Due.BEYOND);
        x.sheet(0, 32, 2);
        due.is("24: SAFE on none", x.fits(0, 0, 0), 16);
        due.is("24: the least of them", x.fits(0, 0, 1), 0);
        x.put(0, 0, 1);
        due.is("24: SAFE on the first", x.fits(0, 0, 0), 5);
        due.is("24: the least, 16", x.fits(0, 0, 1), 16);
        x.put(0, 1, 1);
        due.is("24: SAFE on both", x.fits(0, 0, 0), 0);
        due.is("24: none", x.fits(0, 0, 1), Due.NONE);
        x.put(0, 1, 2);
        due.is("24: 2 is neither", x.fits(0, 0, 0), 0);
        x.put(0, 1, -1);
        due.is("24: -1 is neither", x.fits(0, 0, 0), 0);
        x.sheet(0, 8, 1);
        x.put(0, 0, 257);
        due.is("24: one number; its lowest bits", x.fits(0, 0, 1), 16);
        x.sheet(0, 8, 0);
        due.is("24: no numbers", x.fits(0, 0, 0), 21);
        due.is("24: no numbers, the least", x.fits(0, 0, 1), 0);
        x.sheet(0, 8, 3);
        due.is("24: a number without a PITCH", x.fits(0, 0, 0), 0);
        x.pitch(36, 0);
        due.is("24: now there is one", x.fits(0, 0, 0), 16);
    }

    /** DRAWS as the document has them, for what is due. */
    private static int z;

    private static int draw() {
        z = z * 1103515245 + 12345;
        return z >>> 8;
    }

    private static void loose() {
        OffForSecond x = new OffForSecond();
        due.is("25: nobody there", x.loose(30), 0);
        x.runner(20, 35);
        due.is("25: no PITCHES", x.loose(30), 0);
        x.pitch(5, 0);
        due.is("25: WEIGHTS are 0", x.loose(1), 0);
        due.is("25: no draws", x.count(11), 1);
        due.is("25: n 0", x.loose(0), Due.BEYOND);
        due.is("25: n 31", x.loose(31), Due.BEYOND);
        due.is("25: n -1", x.loose(-1), Due.BEYOND);
        x.weighs(0, 2);
        x.pitch(14, 0);
        x.pitch(36, 3);
        x.runner(60, 45);
        x.runner(0, 31);
        int[] weights = {2, 0, 3};
        int[] starts = {20, 60, 0};
        int[] paces = {35, 45, 31};
        z = 1;
        int worth = 0;
        int outs = 0;
        int[] caught = new int[3];
        int[] stolen = new int[3];
        int[] thrown = new int[3];
        for (int n = 1; n <= 30; n++) {
            int safe = 0;
            for (int i = 0; i < n; i++) {
                int who = draw() % 3;
                int feet = draw() % 21;
                int pitch = draw() % 5 < weights[0] ? 0 : 2;
                boolean looks = draw() % 4 == 0;
                if (looks && starts[who] + paces[who] * feet / 10 > 80) {
                    caught[who]++;
                    outs++;
                    continue;
                }
                thrown[pitch]++;
                int air = pitch == 0 ? 50 : 33;
                if (100 + air + 130 - starts[who] - paces[who] * (90 - feet) / 10 >= 0) {
                    safe++;
                    stolen[who]++;
                    worth += 25;
                } else {
                    caught[who]++;
                    outs++;
                    worth -= 50;
                }
            }
            due.is("25: loose " + n, x.loose(n), safe);
            due.is("25: z", x.count(11), z);
            due.is("25: WORTH", x.count(4), Math.max(-9999, worth));
            due.is("25: OUTS", x.count(2), outs % 3);
            due.is("25: INNINGS", x.count(3), outs / 3);
        }
        for (int i = 0; i < 3; i++) {
            due.is("25: CAUGHT", x.runnerIs(i, 4), caught[i]);
            due.is("25: STOLEN", x.runnerIs(i, 3), stolen[i]);
            due.is("25: LEAD", x.runnerIs(i, 2), 0);
            due.is("25: THROWN", x.pitchIs(i, 3), thrown[i]);
        }
    }

    /** Far more tries than 9999 of one who is always SAFE, and of one who never is. */
    private static void looseHolds() {
        OffForSecond x = new OffForSecond();
        x.pitch(60, 1);
        x.runner(0, 1);
        for (int i = 0; i < 340; i++) {
            due.is("25: all SAFE", x.loose(30), 30);
        }
        due.is("25: STOLEN is held", x.runnerIs(0, 3), 9999);
        due.is("25: THROWN is held", x.pitchIs(0, 3), 9999);
        due.is("25: SPIT by 9999", x.pitchIs(0, 4), 49);
        OffForSecond y = new OffForSecond();
        y.pitch(0, 1);
        y.runner(99, 60);
        for (int i = 0; i < 340; i++) {
            due.is("25: none SAFE", y.loose(30), 0);
        }
        due.is("25: CAUGHT is held", y.runnerIs(0, 4), 9999);
        due.is("25: INNINGS", y.count(3), 3400);
    }

    private static void seed() {
        OffForSecond x = new OffForSecond();
        due.is("26: was 1", x.seed(-1000000001), 1);
        due.is("26: any number, no ERROR", x.seed(Integer.MIN_VALUE), -1000000001);
        due.is("26: not told", x.told(1), 0);
        due.is("26: z", x.count(11), Integer.MIN_VALUE);
        x.pitch(5, 1);
        x.runner(0, 1);
        x.loose(1);
        z = Integer.MIN_VALUE;
        for (int i = 0; i < 4; i++) {
            draw();
        }
        due.is("26: four draws from there", x.seed(0), z);
    }
}
