/** The sentences of paragraph 3, of DRAWS and of promises 17 to 26 that name a boundary, each with a test of its own. */
public final class WouldBeEdgesTest {
    private static final Due due = new Due();
    private static final int MIN = Integer.MIN_VALUE;
    private static final int MAX = Integer.MAX_VALUE;

    public static void main(String[] args) {
        marginFeet();
        marginFarthest();
        leadForLeast();
        leadForNone();
        bestLeadPicked();
        bestLeadNone();
        bestLeadOfSeveral();
        bestLeadHowMuch();
        oddsNoneAndAll();
        oddsLowest();
        oddsState();
        meanZero();
        meanBelowZero();
        meanState();
        duelAlike();
        duelUnlike();
        duelZero();
        surelyNoneAndAll();
        fitsLeads();
        fitsNumbers();
        fitsNone();
        loose();
        looseNothing();
        drawsWrap();
        drawnRunner();
        drawnLead();
        drawnPitch();
        drawnLook();
        seed();
        due.end("WouldBeEdgesTest");
    }

    /** One PITCH of this AIR and one RUNNER whose MARGIN is AIR less 90 and the feet; he is PICKED nowhere. */
    private static OffForSecond plain(int air) {
        OffForSecond x = new OffForSecond();
        x.set(0, 0);
        x.set(1, 0);
        x.pitch(0, 1);
        x.runner(0, 10);
        airIs(x, air);
        return x;
    }

    private static void airIs(OffForSecond x, int air) {
        Due.tellText(x, 0, new StringBuilder().append(air).toString());
    }

    private static void marginFeet() {
        due.edge("17", "MARGIN from so many feet (0 .. 20; any number). BEYOND.");
        OffForSecond x = plain(90);
        int[] wrong = {-1, 21, MIN, MAX};
        for (int feet : wrong) {
            due.is(feet + " feet", x.margin(0, 0, feet), Due.BEYOND);
        }
        for (int feet = 0; feet <= 20; feet++) {
            due.is(feet + " feet", x.margin(0, 0, feet), feet);
        }
        due.is("no PITCH 1", x.margin(0, 1, 0), Due.BEYOND);
        due.is("no PITCH -1", x.margin(0, -1, 0), Due.BEYOND);
        due.is("no RUNNER 1", x.margin(1, 0, 0), Due.BEYOND);
        due.is("no RUNNER -1", x.margin(-1, 0, 0), Due.BEYOND);
    }

    private static void marginFarthest() {
        due.edge("17", "LIFT, AIR and POP, less RUN");
        OffForSecond x = plain(0);
        x.runner(99, 60);
        x.runner(0, 1);
        due.is("the least", x.margin(1, 0, 0), -639);
        x.set(0, 200);
        x.set(1, 200);
        airIs(x, 199);
        due.is("the most", x.margin(2, 0, 20), 592);
    }

    private static void leadForLeast() {
        due.edge("18", "the least LEAD (0 .. 20) from which one would be SAFE on it");
        for (int feet = 0; feet <= 20; feet++) {
            due.is("LEAD FOR by AIR " + (90 - feet), plain(90 - feet).leadFor(0, 0), feet);
        }
        due.is("more than enough from 0", plain(91).leadFor(0, 0), 0);
        due.is("far more", plain(199).leadFor(0, 0), 0);
    }

    private static void leadForNone() {
        due.edge("18", "NONE: not by 20.");
        OffForSecond x = plain(69);
        due.is("-1 from 20", x.margin(0, 0, 20), -1);
        due.is("not by 20", x.leadFor(0, 0), Due.NONE);
        due.is("told", x.told(2), 1);
        x.set(1, 1);
        due.is("by 20", x.leadFor(0, 0), 20);
        due.is("no PITCH 1", x.leadFor(0, 1), Due.BEYOND);
        due.is("no RUNNER 1", x.leadFor(1, 0), Due.BEYOND);
    }

    private static void bestLeadPicked() {
        due.edge("19", "of all (0 .. 20) with which he isn't PICKED");
        for (int start = 10; start <= 30; start++) {
            OffForSecond x = plain(90);
            x.runner(start, 10);
            Due.tellText(x, 1, "m");
            due.is("the farthest, START " + start, x.bestLead(1, 0), 30 - start);
            due.is("how much, START " + start, x.bestLead(1, 1), 30 - 2 * start);
        }
        OffForSecond x = plain(90);
        x.runner(9, 10);
        Due.tellText(x, 1, "m");
        due.is("20 is the greatest, START 9", x.bestLead(1, 0), 20);
        due.is("20 is the greatest, START 0", x.bestLead(0, 0), 20);
    }

    private static void bestLeadNone() {
        due.edge("19", "NONE: with all he is PICKED.");
        OffForSecond x = plain(90);
        x.runner(30, 60);
        x.runner(31, 1);
        due.is("0 alone is left", x.bestLead(1, 0), 0);
        due.is("0 alone is left, how much", x.bestLead(1, 1), -50);
        due.is("none is left", x.bestLead(2, 0), Due.NONE);
        due.is("none is left, how much", x.bestLead(2, 1), Due.NONE);
        x.set(0, 1);
        due.is("LIFT by 2 is cut", x.bestLead(2, 0), Due.NONE);
        x.set(0, 2);
        due.is("31 are not above 31", x.bestLead(2, 0), 0);
        due.is("what 2", x.bestLead(0, 2), Due.BEYOND);
        due.is("what -1", x.bestLead(0, -1), Due.BEYOND);
    }

    private static void bestLeadOfSeveral() {
        due.edge("19", "are most; of several the least; how much");
        OffForSecond x = plain(90);
        due.is("all alike", x.bestLead(0, 0), 0);
        Due.tellText(x, 1, "m>6");
        due.is("from 7 on alike", x.bestLead(0, 0), 7);
        Due.tellText(x, 1, "m/4");
        due.is("20 alone", x.bestLead(0, 0), 20);
        Due.tellText(x, 1, "m/3");
        due.is("18, 19 and 20", x.bestLead(0, 0), 18);
        Due.tellText(x, 1, "0-(m-9)*(m-9)");
        due.is("9 amid all", x.bestLead(0, 0), 9);
        due.is("9 amid all, how much", x.bestLead(0, 1), 0);
        Due.tellText(x, 1, "(m=4)+(m=17)-7");
        due.is("4 and 17", x.bestLead(0, 0), 4);
        due.is("4 and 17, how much", x.bestLead(0, 1), -6);
    }

    private static void bestLeadHowMuch() {
        due.edge("19", "what 0 which, 1 how much (any number)");
        OffForSecond x = plain(90);
        x.weighs(0, 0);
        due.is("no WEIGHT", x.bestLead(0, 1), 0);
        x.weighs(0, 9);
        for (int i = 1; i < 6; i++) {
            x.pitch(0, 9);
        }
        Due.tellText(x, 1, "99");
        due.is("the most", x.bestLead(0, 1), 6 * 9 * 99);
        Due.tellText(x, 1, "0-99");
        due.is("the least", x.bestLead(0, 1), -6 * 9 * 99);
        OffForSecond y = new OffForSecond();
        y.runner(0, 1);
        due.is("no PITCHES, which", y.bestLead(0, 0), 0);
        due.is("no PITCHES, how much", y.bestLead(0, 1), 0);
    }

    private static void fraction(String call, int above, int below, int wantAbove, int wantBelow) {
        due.is(call + ", above", above, wantAbove);
        due.is(call + ", below", below, wantBelow);
    }

    private static void odds(OffForSecond x, String call, int above, int below) {
        fraction(call, x.odds(0, 0), x.odds(0, 1), above, below);
    }

    private static void mean(OffForSecond x, String call, int above, int below) {
        fraction(call, x.go(0, 0), x.go(0, 1), above, below);
    }

    private static void oddsNoneAndAll() {
        due.edge("20", "a fraction in lowest terms (0 is 0 by 1)");
        OffForSecond x = plain(89);
        x.weighs(0, 9);
        odds(x, "-1: none", 0, 1);
        x.leads(0, 1);
        odds(x, "0: all", 1, 1);
        x.leads(0, 20);
        odds(x, "19: all", 1, 1);
    }

    private static void oddsLowest() {
        due.edge("20", "PITCHES as likely as their WEIGHTS");
        OffForSecond x = new OffForSecond();
        x.set(0, 0);
        x.set(1, 0);
        x.runner(0, 5);
        for (int i = 0; i < 6; i++) {
            x.pitch(i % 2 == 0 ? 0 : 10, 9);
        }
        due.is("PITCH 0", x.margin(0, 0, 0), 0);
        odds(x, "all of six", 1, 1);
        Due.tellText(x, 0, "a-1");
        odds(x, "27 of 54", 1, 2);
        x.weighs(1, 8);
        odds(x, "26 of 53", 26, 53);
        x.weighs(0, 8);
        odds(x, "26 of 52", 1, 2);
        x.weighs(1, 0);
        x.weighs(3, 0);
        x.weighs(5, 0);
        odds(x, "SAFE on those of WEIGHT 0 alone", 0, 1);
        x.weighs(5, 1);
        odds(x, "1 of 27", 1, 27);
        x.weighs(0, 0);
        x.weighs(2, 0);
        x.weighs(4, 0);
        odds(x, "not SAFE on those of WEIGHT 0 alone", 1, 1);
    }

    private static void oddsState() {
        due.edge("20", "part 0 above, 1 below the line. BEYOND. STATE: all WEIGHTS are 0.");
        OffForSecond x = plain(90);
        due.is("part 2", x.odds(0, 2), Due.BEYOND);
        due.is("part -1", x.odds(0, -1), Due.BEYOND);
        due.is("no RUNNER 1", x.odds(1, 0), Due.BEYOND);
        x.weighs(0, 0);
        due.is("all 0, above", x.odds(0, 0), Due.STATE);
        due.is("all 0, below", x.odds(0, 1), Due.STATE);
        x.pitch(0, 1);
        odds(x, "not all any more", 1, 1);
        OffForSecond y = new OffForSecond();
        y.runner(0, 1);
        due.is("no PITCHES", y.odds(0, 0), Due.STATE);
    }

    private static void meanZero() {
        due.edge("21", "below the line above 0 (0 is 0 by 1)");
        OffForSecond x = plain(90);
        x.weighs(0, 8);
        Due.tellText(x, 1, "m");
        mean(x, "0 by 8", 0, 1);
        x.leads(0, 1);
        mean(x, "8 by 8", 1, 1);
        x.pitch(0, 0);
        mean(x, "a WEIGHT of 0", 1, 1);
    }

    private static void meanBelowZero() {
        due.edge("21", "GAINS from his LEAD, by these odds, in the mean");
        OffForSecond x = plain(90);
        x.untell(0);
        x.runner(0, 5);
        // on PITCH 0 MARGIN is -45, on PITCH 1 -30
        x.pitch(10, 2);
        Due.tellText(x, 1, "0-(m=0-45)");
        mean(x, "-1 by 3", -1, 3);
        Due.tellText(x, 1, "(m=0-45)*2-(m=0-30)");
        mean(x, "2 less 2", 0, 1);
        Due.tellText(x, 1, "99");
        mean(x, "the most", 99, 1);
        Due.tellText(x, 1, "0-99");
        mean(x, "the least", -99, 1);
        Due.tellText(x, 1, "(m=0-30)-5");
        mean(x, "-5 less 8", -13, 3);
    }

    private static void meanState() {
        due.edge("21", "part 0 above (any number), 1 below the line. BEYOND. STATE: all WEIGHTS are 0.");
        OffForSecond x = plain(90);
        due.is("part 2", x.go(0, 2), Due.BEYOND);
        due.is("part -1", x.go(0, -1), Due.BEYOND);
        due.is("no RUNNER 1", x.go(1, 0), Due.BEYOND);
        x.weighs(0, 0);
        due.is("all 0, above", x.go(0, 0), Due.STATE);
        due.is("all 0, below", x.go(0, 1), Due.STATE);
        x.weighs(0, 1);
        mean(x, "not all any more", 25, 1);
    }

    /** GOING has a on one PITCH and b on the other; staying costs 5 and m there, and 0. */
    private static void duel(int a, int b, int m, int above, int below) {
        OffForSecond x = new OffForSecond();
        x.set(0, 0);
        x.set(1, 0);
        x.runner(0, 10);
        x.pitch(30 + m, 0);
        x.pitch(0, 0);
        due.is("the TEXT", Due.tellText(x, 1, "(m=0-57)*(500+" + (a + 500) + "-1000)+(m=0-45)*(500+" + (b + 500) + "-1000)"), 1);
        String call = a + ", " + b + "; " + (5 + m) + ", 0";
        fraction(call, x.duel(0, 0, 1, 0), x.duel(0, 0, 1, 1), above, below);
        fraction(call + " the other way", x.duel(0, 1, 0, 0), x.duel(0, 1, 0, 1), above, below);
    }

    private static void duelAlike() {
        due.edge("22", "Where the greatest of the rows' least and the least of the columns' greatest are alike, that");
        duel(20, 10, 0, 10, 1);
        duel(10, 20, 0, 10, 1);
        duel(5, 10, 0, 5, 1);
        duel(5, 5, 0, 5, 1);
        duel(5, 1, 0, 1, 1);
        duel(4, 1, 0, 1, 1);
        duel(99, 99, 9, 99, 1);
        duel(6, 99, 0, 6, 1);
        duel(14, 99, 9, 14, 1);
        OffForSecond x = plain(90);
        x.become(0, 39);
        due.is("one PITCH against itself", x.duel(0, 0, 0, 0), 25);
        x.runner(0, 60);
        due.is("one PITCH against itself, staying", x.duel(1, 0, 0, 0), 14);
        due.is("one PITCH against itself, below", x.duel(1, 0, 0, 1), 1);
    }

    private static void duelUnlike() {
        due.edge("22", "else, GOING a, b, staying c, d: a*d-b*c by a+d-b-c");
        duel(4, 10, 0, 50, 11);
        duel(0, 1, 0, 5, 6);
        duel(4, 5, 0, 25, 6);
        duel(-5, 5, 0, 5, 3);
        duel(0, 10, 0, 10, 3);
        duel(-99, 99, 9, 693, 106);
        duel(13, 99, 9, 693, 50);
        duel(-1, 1, 0, 5, 7);
    }

    private static void duelZero() {
        due.edge("22", "a fraction in lowest terms, below the line above 0 (0 is 0 by 1)");
        duel(0, 0, 0, 0, 1);
        duel(4, 0, 0, 0, 1);
        duel(99, -1, 0, 0, 1);
        duel(-99, -99, 9, 0, 1);
        due.edge("22", "A DUEL: part 0 above (any number), 1 below the line. BEYOND.");
        OffForSecond x = plain(90);
        due.is("part 2", x.duel(0, 0, 0, 2), Due.BEYOND);
        due.is("part -1", x.duel(0, 0, 0, -1), Due.BEYOND);
        due.is("no PITCH 1", x.duel(0, 1, 0, 0), Due.BEYOND);
        due.is("no other PITCH 1", x.duel(0, 0, 1, 0), Due.BEYOND);
        due.is("no PITCH -1", x.duel(0, -1, 0, 0), Due.BEYOND);
        due.is("no other PITCH -1", x.duel(0, 0, -1, 0), Due.BEYOND);
        due.is("no RUNNER 1", x.duel(1, 0, 0, 0), Due.BEYOND);
        due.is("no RUNNER -1", x.duel(-1, 0, 0, 0), Due.BEYOND);
    }

    private static void surelyNoneAndAll() {
        due.edge("23", "SURELY: what 0 the set, 1 how many. BEYOND.");
        OffForSecond y = new OffForSecond();
        y.runner(0, 1);
        due.is("no PITCHES", y.surely(0, 0), 0);
        due.is("no PITCHES, how many", y.surely(0, 1), 0);
        OffForSecond x = plain(89);
        for (int i = 1; i < 6; i++) {
            x.pitch(0, 0);
        }
        due.is("-1: none", x.surely(0, 0), 0);
        due.is("-1: none, how many", x.surely(0, 1), 0);
        x.leads(0, 1);
        due.is("0: all six", x.surely(0, 0), 63);
        due.is("0: all six, how many", x.surely(0, 1), 6);
        Due.tellText(x, 0, "a");
        x.become(5, 14);
        x.leads(0, 20);
        due.is("-6 on the last", x.margin(0, 5, 20), -6);
        x.set(0, 6);
        due.is("the last alone", x.surely(0, 0), 32);
        due.is("the last alone, how many", x.surely(0, 1), 1);
        due.is("what 2", x.surely(0, 2), Due.BEYOND);
        due.is("what -1", x.surely(0, -1), Due.BEYOND);
        due.is("no RUNNER 1", x.surely(1, 0), Due.BEYOND);
    }

    private static OffForSecond withSheet(int air, int bits, int... numbers) {
        OffForSecond x = plain(air);
        x.sheet(0, bits, numbers.length);
        for (int i = 0; i < numbers.length; i++) {
            x.put(0, i, numbers[i]);
        }
        return x;
    }

    private static void fitsLeads() {
        due.edge("24", "with how many LEADS (0 .. 20) that is so; the least");
        for (int feet = 0; feet <= 20; feet++) {
            OffForSecond x = withSheet(90 - feet, 8, 1);
            due.is("SAFE from " + feet + " on", x.fits(0, 0, 0), 21 - feet);
            due.is("SAFE from " + feet + " on, the least", x.fits(0, 0, 1), feet);
            x.put(0, 0, 0);
            due.is("not SAFE up to " + feet, x.fits(0, 0, 0), feet);
            due.is("not SAFE up to " + feet + ", the least", x.fits(0, 0, 1), feet == 0 ? Due.NONE : 0);
        }
        OffForSecond x = withSheet(69, 8, 1);
        due.is("SAFE from none", x.fits(0, 0, 0), 0);
        due.is("SAFE from none, the least", x.fits(0, 0, 1), Due.NONE);
        x.put(0, 0, 0);
        due.is("not SAFE from all", x.fits(0, 0, 0), 21);
    }

    private static void fitsNumbers() {
        due.edge("24", "a SHEET tells whether one would be SAFE on PITCHES 0, 1, .. (1, 0)");
        int[] neither = {2, -1, 3, 255, 128, 127};
        for (int number : neither) {
            for (int bits = 8; bits <= 32; bits *= 2) {
                due.is(number + " in " + bits + " bits is neither", withSheet(80, bits, number).fits(0, 0, 0), 0);
            }
        }
        due.is("no numbers", withSheet(80, 8).fits(0, 0, 0), 21);
        due.is("no numbers, the least", withSheet(80, 8).fits(0, 0, 1), 0);
        due.is("a number for which there is no PITCH", withSheet(80, 8, 1, 0).fits(0, 0, 0), 0);
        due.is("a number for which there is no PITCH, 1", withSheet(80, 8, 1, 1).fits(0, 0, 0), 0);
        OffForSecond x = withSheet(80, 16, 1, 1, 1, 1, 1, 1);
        for (int i = 1; i < 6; i++) {
            due.is("more numbers than PITCHES", x.fits(0, 0, 0), 0);
            x.pitch(0, 0);
        }
        due.is("as many", x.fits(0, 0, 0), 11);
        x.put(0, 5, 0);
        due.is("the last is unlike", x.fits(0, 0, 0), 0);
        x.sheet(0, 16, 24);
        due.is("24 numbers", x.fits(0, 0, 0), 0);
    }

    private static void fitsNone() {
        due.edge("24", "NONE: the SHEET is missing; (what 1) there is none.");
        OffForSecond x = withSheet(80, 8, 2);
        due.is("none, what 0", x.fits(0, 0, 0), 0);
        due.is("none, what 1", x.fits(0, 0, 1), Due.NONE);
        due.is("missing, what 0", x.fits(3, 0, 0), Due.NONE);
        due.is("missing, what 1", x.fits(3, 0, 1), Due.NONE);
        due.is("no SHEET 4", x.fits(4, 0, 0), Due.BEYOND);
        due.is("no SHEET -1", x.fits(-1, 0, 0), Due.BEYOND);
        due.is("no RUNNER 1", x.fits(0, 1, 0), Due.BEYOND);
        due.is("no RUNNER -1", x.fits(0, -1, 0), Due.BEYOND);
        due.is("what 2", x.fits(0, 0, 2), Due.BEYOND);
        due.is("what -1", x.fits(0, 0, -1), Due.BEYOND);
        due.is("told", x.told(2), 3);
    }

    private static void loose() {
        due.edge("25", "n (1 .. 30) tries BY DRAWS: how often somebody was SAFE. BEYOND.");
        OffForSecond x = plain(199);
        int[] wrong = {0, 31, -1, MIN, MAX};
        for (int n : wrong) {
            due.is("n " + n, x.loose(n), Due.BEYOND);
        }
        due.is("no draws", x.count(11), 1);
        due.is("1", x.loose(1), 1);
        due.is("THROWN 1", x.pitchIs(0, 3), 1);
        due.is("30", x.loose(30), 30);
        due.is("THROWN 31", x.pitchIs(0, 3), 31);
        airIs(x, 0);
        due.is("none SAFE", x.loose(30), 0);
    }

    private static void looseNothing() {
        due.edge("25", "nothing, if there are no RUNNERS, or all WEIGHTS together are 0");
        OffForSecond x = new OffForSecond();
        due.is("neither", x.loose(30), 0);
        x.pitch(0, 9);
        due.is("no RUNNERS", x.loose(30), 0);
        due.is("no draws", x.count(11), 1);
        x.weighs(0, 0);
        x.pitch(0, 0);
        x.runner(0, 1);
        x.leads(0, 20);
        due.is("all WEIGHTS 0", x.loose(30), 0);
        due.is("still no draws", x.count(11), 1);
        due.is("LEAD stays", x.runnerIs(0, 2), 20);
        due.is("WORTH stays", x.count(4), 0);
        x.weighs(1, 1);
        due.is("one WEIGHT is not 0", x.loose(1), 1);
        due.is("four draws", x.count(11), drawn(1, 4));
        OffForSecond y = new OffForSecond();
        y.runner(0, 1);
        due.is("no PITCHES", y.loose(1), 0);
        due.is("no draws without PITCHES", y.count(11), 1);
    }

    private static int drawn(int from, int times) {
        int z = from;
        for (int i = 0; i < times; i++) {
            z = z * 1103515245 + 12345;
        }
        return z;
    }

    /** What the n-th draw (from 1) gives when z was that. */
    private static int given(int from, int n) {
        return drawn(from, n) >>> 8;
    }

    private static void drawsWrap() {
        due.edge("25", "each makes it z * 1103515245 + 12345 (an int), and gives z >>> 8");
        OffForSecond x = plain(199);
        // worked out apart from any Java: z after the four draws of one try
        int[][] rows = {{1, -999580867}, {0, -698016724}, {-1, -396452581}, {MAX, 1751031067}, {MIN, 1449466924}};
        for (int[] each : rows) {
            x.seed(each[0]);
            due.is("SAFE with z " + each[0], x.loose(1), 1);
            due.is("z after " + each[0], x.count(11), each[1]);
        }
    }

    private static void drawnRunner() {
        due.edge("25", "a draw: the RUNNER that is its rest by how many there are");
        OffForSecond x = plain(199);
        for (int i = 1; i < 5; i++) {
            x.runner(0, 10);
        }
        int[] stolen = new int[5];
        for (int z = -10; z < 15; z++) {
            int who = given(z, 1) % 5;
            x.seed(z);
            x.loose(1);
            stolen[who]++;
            due.is("STOLEN of " + who + " with z " + z, x.runnerIs(who, 3), stolen[who]);
        }
        for (int i = 0; i < 5; i++) {
            due.is("each was drawn", stolen[i] > 0 ? 1 : 0, 1);
        }
    }

    private static void drawnLead() {
        due.edge("25", "LEAD of that one becomes its rest by 21");
        OffForSecond x = plain(90);
        Due.tellText(x, 1, "m");
        int worth = 0;
        int drawn = 0;
        for (int z = 0; z < 120; z++) {
            int feet = given(z, 2) % 21;
            x.seed(z);
            x.loose(1);
            worth += feet;
            drawn |= 1 << feet;
            due.is("WORTH by " + feet + " feet", x.count(4), worth);
        }
        due.is("all of 0 .. 20 were drawn", drawn, (1 << 21) - 1);
        due.is("LEAD is 0 then", x.runnerIs(0, 2), 0);
    }

    private static void drawnPitch() {
        due.edge("25", "its rest by all WEIGHTS together tells the PITCH, the first one's WEIGHT coming first");
        drawnPitch(new int[] {0, 2, 0, 9, 1, 0}, new int[] {1, 1, 3, 3, 3, 3, 3, 3, 3, 3, 3, 4});
        drawnPitch(new int[] {1, 3, 0, 0, 0, 8}, new int[] {0, 1, 1, 1, 5, 5, 5, 5, 5, 5, 5, 5});
        drawnPitch(new int[] {9, 0, 0, 0, 0, 3}, new int[] {0, 0, 0, 0, 0, 0, 0, 0, 0, 5, 5, 5});
        drawnPitch(new int[] {0, 0, 0, 0, 0, 1}, new int[] {5});
        drawnPitch(new int[] {1, 0, 0, 0, 0, 0}, new int[] {0});
    }

    /** Such WEIGHTS, and which PITCH is due by each rest. */
    private static void drawnPitch(int[] weights, int[] of) {
        OffForSecond x = plain(199);
        x.weighs(0, weights[0]);
        for (int i = 1; i < 6; i++) {
            x.pitch(0, weights[i]);
        }
        int[] thrown = new int[6];
        int drawn = 0;
        for (int z = 0; z < 90; z++) {
            int rest = given(z, 3) % of.length;
            x.seed(z);
            x.loose(1);
            drawn |= 1 << rest;
            thrown[of[rest]]++;
            due.is("THROWN by a rest of " + rest, x.pitchIs(of[rest], 3), thrown[of[rest]]);
        }
        due.is("all rests were drawn", drawn, (1 << of.length) - 1);
        for (int i = 0; i < 6; i++) {
            due.is("THROWN of " + i, x.pitchIs(i, 3), thrown[i]);
        }
    }

    private static void drawnLook() {
        due.edge("25", "if 4 divides it, and that one is PICKED, he is OUT; else he GOES on that PITCH");
        for (int start = 30; start <= 31; start++) {
            // 30 is never PICKED with LEADS below 10, 31 always is
            OffForSecond x = new OffForSecond();
            x.set(0, 0);
            x.pitch(0, 1);
            x.runner(start, 1);
            airIs(x, 199);
            int thrown = 0;
            int caught = 0;
            int rests = 0;
            for (int z = 0; z < 60; z++) {
                int rest = given(z, 4) % 4;
                boolean isOut = rest == 0 && (start == 31 || given(z, 2) % 21 >= 10);
                x.seed(z);
                due.is("START " + start + ", a rest by 4 of " + rest, x.loose(1), isOut ? 0 : 1);
                thrown += isOut ? 0 : 1;
                caught += isOut ? 1 : 0;
                rests |= 1 << rest;
                due.is("THROWN", x.pitchIs(0, 3), thrown);
                due.is("CAUGHT", x.runnerIs(0, 4), caught);
                due.is("WORTH", x.count(4), 25 * thrown);
                due.is("LEAD", x.runnerIs(0, 2), 0);
            }
            due.is("all rests by 4", rests, 15);
            due.is("OUTS", x.count(2), caught % 3);
        }
    }

    private static void seed() {
        due.edge("26", "z becomes v: what it was (any number).");
        OffForSecond x = new OffForSecond();
        int[] some = {0, -1, MIN, MAX, Due.BEYOND, Due.PARTED, 1};
        int before = 1;
        for (int v : some) {
            due.is("what it was", x.seed(v), before);
            due.is("z", x.count(11), v);
            before = v;
        }
        due.is("no ERROR", x.told(1), 0);
        due.is("no ERROR, too", x.told(6), 0);
    }
}
