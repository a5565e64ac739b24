/** Off for second: pitches, runners, leads, and what going is worth; ../shared/DOC.md says what each call does. */
public final class OffForSecond {
    private static final int LOW = -1000000000;
    private static final int BEYOND = 1;
    private static final int NONE = 2;
    private static final int STATE = 3;
    private static final int FULL = 4;
    private static final int UNLIKE = 5;
    private static final int PARTED = 6;

    private static final int PITCH = 0;
    private static final int CURVE = 1;
    private static final int HARD = 2;
    private static final int WIDE = 3;
    private static final int SLOW = 4;
    private static final int CUTTER = 5;
    private static final int SPIT = 6;
    private static final int KINDS = 7;
    /** The KIND above each KIND; -1 above the topmost. */
    private static final int[] ABOVE = {-1, PITCH, PITCH, PITCH, CURVE, HARD, PITCH};

    private static final int HISSES = 0;
    private static final int DROPS = 1;
    private static final int THUDS = 2;
    private static final int PARTS = 3;
    private static final int VOICES = 4;
    /** The BODY of each KIND for each VOICE, four to a KIND; 0 where the KIND has none of its own. */
    private static final int[] BODIES = {
        10, 11, 12, 13,
        20, 0, 0, 21,
        0, 30, 0, 0,
        0, 0, 40, 0,
        50, 0, 51, 0,
        0, 60, 0, 0,
        70, 71, 0, 0,
    };

    private static final int AIR = 0;
    private static final int GAIN = 1;
    private static final int USES = 2;
    /** The NAMES of each USE, three to a USE. */
    private static final char[] NAMES = {'a', 'w', 'o', 's', 'm', 'o'};
    private static final int NAMES_EACH = 3;

    private static final int MOST_PITCHES = 6;
    private static final int MOST_RUNNERS = 5;
    private static final int MOST_FEET = 20;
    private static final int MOST_BYTES = 60;
    private static final int MOST_WAITING = 24;
    private static final int MOST_BODIES = 30;
    private static final int MOST_OPEN = 5;
    private static final int MOST_DIGITS = 4;
    private static final int MOST_OFTEN = 9999;
    private static final int MOST_TRIES = 30;
    private static final int SHEETS = 4;
    private static final int MOST_NUMBERS = 24;
    /** Far above what BODIES can stand open at once (six). */
    private static final int DEEPEST = 20;

    private final Scene scene;
    private final Scene kept;
    private final Reader reader;
    private final Sheets sheets;
    private final Throat throat;
    private final int[] errors;
    private int images;

    public OffForSecond() {
        scene = new Scene();
        kept = new Scene();
        reader = new Reader();
        sheets = new Sheets();
        throat = new Throat();
        errors = new int[PARTED + 1];
        images = 0;
    }

    // ---- pitches, runners

    public int pitch(int km, int weight) {
        if (!isKindAndM(km) || !isDigit(weight)) {
            return error(BEYOND);
        }
        if (scene.pitches.size >= MOST_PITCHES) {
            return error(FULL);
        }
        return scene.pitches.add(km, weight);
    }

    public int pitchIs(int pitch, int what) {
        if (!isPitch(pitch)) {
            return error(BEYOND);
        }
        switch (what) {
            case 0: return scene.pitches.kind[pitch];
            case 1: return scene.pitches.m[pitch];
            case 2: return scene.pitches.weight[pitch];
            case 3: return scene.pitches.thrown[pitch];
            case 4: return scene.air(pitch);
            case 5: return scene.costs(pitch);
            default: return error(BEYOND);
        }
    }

    public int become(int pitch, int km) {
        if (!isPitch(pitch) || !isKindAndM(km)) {
            return error(BEYOND);
        }
        int before = scene.pitches.kind[pitch];
        scene.pitches.kind[pitch] = km / 10;
        scene.pitches.m[pitch] = km % 10;
        return before;
    }

    public int as(int pitch, int kind) {
        if (!isPitch(pitch) || !within(kind, 0, KINDS - 1)) {
            return error(BEYOND);
        }
        if (!isUnder(scene.pitches.kind[pitch], kind)) {
            return error(UNLIKE);
        }
        return scene.pitches.m[pitch];
    }

    public int weighs(int pitch, int weight) {
        if (!isPitch(pitch) || !isDigit(weight)) {
            return error(BEYOND);
        }
        int before = scene.pitches.weight[pitch];
        scene.pitches.weight[pitch] = weight;
        return before;
    }

    public int runner(int start, int pace) {
        if (!within(start, 0, 99) || !within(pace, 1, 60)) {
            return error(BEYOND);
        }
        if (scene.runners.size >= MOST_RUNNERS) {
            return error(FULL);
        }
        return scene.runners.add(start, pace);
    }

    public int runnerIs(int runner, int what) {
        if (!isRunner(runner)) {
            return error(BEYOND);
        }
        int feet = scene.runners.lead[runner];
        switch (what) {
            case 0: return scene.runners.start[runner];
            case 1: return scene.runners.pace[runner];
            case 2: return feet;
            case 3: return scene.runners.stolen[runner];
            case 4: return scene.runners.caught[runner];
            case 5: return scene.runners.runFrom(runner, feet);
            case 6: return scene.isPicked(runner, feet) ? 1 : 0;
            default: return error(BEYOND);
        }
    }

    public int leads(int runner, int feet) {
        if (!isRunner(runner) || !isFeet(feet)) {
            return error(BEYOND);
        }
        int before = scene.runners.lead[runner];
        scene.runners.lead[runner] = feet;
        return before;
    }

    public int set(int what, int v) {
        if (!within(what, 0, 3) || !within(v, 0, mostOfSetting(what))) {
            return error(BEYOND);
        }
        return scene.change(what, v);
    }

    public int steal(int runner, int pitch) {
        if (!isRunner(runner) || !isPitch(pitch)) {
            return error(BEYOND);
        }
        return scene.goes(runner, pitch) ? 1 : 0;
    }

    public int over(int runner) {
        if (!isRunner(runner)) {
            return error(BEYOND);
        }
        if (!scene.isPicked(runner, scene.runners.lead[runner])) {
            return 0;
        }
        scene.isOut(runner);
        return 1;
    }

    // ---- texts

    public int feed(long word, int n) {
        if (!within(n, 1, 8)) {
            return error(BEYOND);
        }
        if (scene.taped + n > MOST_BYTES) {
            return error(FULL);
        }
        for (int i = 0; i < n; i++) {
            scene.tape[scene.taped + i] = (byte) (word >>> (8 * i));
        }
        scene.taped += n;
        return scene.taped;
    }

    public int text(int use) {
        if (!isUse(use)) {
            return error(BEYOND);
        }
        int fault = reader.faultOf(scene.tape, scene.taped, use);
        scene.taped = 0;
        if (fault >= 0) {
            return -10 - fault;
        }
        scene.textOf(use).takes(reader.draft);
        return 1;
    }

    public int untell(int use) {
        if (!isUse(use)) {
            return error(BEYOND);
        }
        Text text = scene.textOf(use);
        int before = text.isThere ? 1 : 0;
        text.isThere = false;
        return before;
    }

    public int law(int use, int a, int b, int c) {
        if (!isUse(use)) {
            return error(BEYOND);
        }
        return scene.gives(use, a, b, c);
    }

    // ---- what would be

    public int margin(int runner, int pitch, int feet) {
        if (!isRunner(runner) || !isPitch(pitch) || !isFeet(feet)) {
            return error(BEYOND);
        }
        return scene.marginFrom(runner, pitch, feet);
    }

    public int leadFor(int runner, int pitch) {
        if (!isRunner(runner) || !isPitch(pitch)) {
            return error(BEYOND);
        }
        for (int feet = 0; feet <= MOST_FEET; feet++) {
            if (scene.marginFrom(runner, pitch, feet) >= 0) {
                return feet;
            }
        }
        return error(NONE);
    }

    public int bestLead(int runner, int what) {
        if (!isRunner(runner) || !within(what, 0, 1)) {
            return error(BEYOND);
        }
        int best = -1;
        int most = 0;
        for (int feet = 0; feet <= MOST_FEET; feet++) {
            if (!scene.isPicked(runner, feet)) {
                int gains = scene.weighedGains(runner, feet);
                if (best < 0 || gains > most) {
                    best = feet;
                    most = gains;
                }
            }
        }
        if (best < 0) {
            return error(NONE);
        }
        return what == 0 ? best : most;
    }

    public int odds(int runner, int part) {
        if (!isRunner(runner) || !within(part, 0, 1)) {
            return error(BEYOND);
        }
        int all = scene.pitches.allWeights();
        if (all == 0) {
            return error(STATE);
        }
        return partOf(scene.safeWeights(runner, scene.runners.lead[runner]), all, part);
    }

    public int go(int runner, int part) {
        if (!isRunner(runner) || !within(part, 0, 1)) {
            return error(BEYOND);
        }
        int all = scene.pitches.allWeights();
        if (all == 0) {
            return error(STATE);
        }
        return partOf(scene.weighedGains(runner, scene.runners.lead[runner]), all, part);
    }

    public int duel(int runner, int one, int other, int part) {
        if (!isRunner(runner) || !isPitch(one) || !isPitch(other) || !within(part, 0, 1)) {
            return error(BEYOND);
        }
        int feet = scene.runners.lead[runner];
        int goOne = scene.gainFrom(runner, one, feet);
        int goOther = scene.gainFrom(runner, other, feet);
        int stayOne = scene.costs(one);
        int stayOther = scene.costs(other);
        int rows = Math.max(Math.min(goOne, goOther), Math.min(stayOne, stayOther));
        int columns = Math.min(Math.max(goOne, stayOne), Math.max(goOther, stayOther));
        if (rows == columns) {
            return partOf(rows, 1, part);
        }
        return partOf(goOne * stayOther - goOther * stayOne, goOne + stayOther - goOther - stayOne, part);
    }

    public int surely(int runner, int what) {
        if (!isRunner(runner) || !within(what, 0, 1)) {
            return error(BEYOND);
        }
        int safe = scene.safePitches(runner, scene.runners.lead[runner]);
        return what == 0 ? safe : Integer.bitCount(safe);
    }

    public int fits(int sheet, int runner, int what) {
        if (!isSheet(sheet) || !isRunner(runner) || !within(what, 0, 1)) {
            return error(BEYOND);
        }
        if (sheets.isMissing(sheet)) {
            return error(NONE);
        }
        int fitting = 0;
        int least = -1;
        for (int feet = 0; feet <= MOST_FEET; feet++) {
            if (fitsFrom(sheet, runner, feet)) {
                fitting++;
                if (least < 0) {
                    least = feet;
                }
            }
        }
        if (what == 0) {
            return fitting;
        }
        return least < 0 ? error(NONE) : least;
    }

    public int loose(int n) {
        if (!within(n, 1, MOST_TRIES)) {
            return error(BEYOND);
        }
        int safe = 0;
        for (int i = 0; i < n; i++) {
            if (scene.isSafeByDraws()) {
                safe++;
            }
        }
        return safe;
    }

    public int seed(int v) {
        int before = scene.z;
        scene.z = v;
        return before;
    }

    // ---- voices, sheets, images, what is told

    public int voice(int pitch, int voice, int x) {
        if (!isPitch(pitch) || !within(voice, 0, VOICES - 1)) {
            return error(BEYOND);
        }
        int said = throat.speak(pitch, scene.pitches.kind[pitch], scene.pitches.m[pitch], voice, x);
        return throat.parted ? error(PARTED) : said;
    }

    public int body(int i) {
        if (i < 0 || i >= throat.traced) {
            return error(NONE);
        }
        return throat.trace[i];
    }

    public int sheet(int sheet, int bits, int n) {
        if (!isSheet(sheet) || !(bits == 0 || bits == 8 || bits == 16 || bits == 32)) {
            return error(BEYOND);
        }
        if (bits == 0) {
            sheets.lay(sheet, 0, 0);
            return 1;
        }
        if (n < 0) {
            return error(STATE);
        }
        if (n > MOST_NUMBERS) {
            return error(BEYOND);
        }
        sheets.lay(sheet, bits, n);
        return 1;
    }

    public int put(int sheet, int i, int v) {
        if (!isSheet(sheet)) {
            return error(BEYOND);
        }
        if (sheets.isMissing(sheet)) {
            return error(NONE);
        }
        if (!sheets.standsAt(sheet, i, 1)) {
            return error(BEYOND);
        }
        sheets.write(sheet, i, v);
        return 1;
    }

    public int move(int sheet, int i, int other, int j, int n) {
        if (!isSheet(sheet) || !isSheet(other)) {
            return error(BEYOND);
        }
        if (sheets.isMissing(sheet) || sheets.isMissing(other)) {
            return error(NONE);
        }
        if (sheets.bits[sheet] != sheets.bits[other]) {
            return error(UNLIKE);
        }
        if (!sheets.standsAt(sheet, i, n) || !sheets.standsAt(other, j, n)) {
            return error(BEYOND);
        }
        sheets.copy(sheet, i, other, j, n);
        return n;
    }

    public int weightsBy(int sheet) {
        if (!isSheet(sheet)) {
            return error(BEYOND);
        }
        if (sheets.isMissing(sheet)) {
            return error(NONE);
        }
        int most = Math.min(sheets.size[sheet], scene.pitches.size);
        for (int i = 0; i < most; i++) {
            int weight = sheets.read(sheet, i);
            if (!isDigit(weight)) {
                return i;
            }
            scene.pitches.weight[i] = weight;
        }
        return most;
    }

    public int judge(int sheet) {
        if (!isSheet(sheet)) {
            return error(BEYOND);
        }
        if (sheets.isMissing(sheet)) {
            return error(NONE);
        }
        int most = Math.min(sheets.size[sheet], scene.pitches.size);
        for (int i = 0; i < most; i++) {
            if (sheets.read(sheet, i) != scene.air(i)) {
                return i;
            }
        }
        return most;
    }

    public int image() {
        kept.takes(scene);
        images++;
        return images;
    }

    public int restore() {
        if (images == 0) {
            return error(NONE);
        }
        scene.takes(kept);
        return scene.innings;
    }

    public int tell(int v) {
        if (scene.waits >= MOST_WAITING) {
            return error(FULL);
        }
        scene.waiting[scene.waits] = v;
        scene.waits++;
        return scene.waits;
    }

    public int check() {
        int waited = scene.waits;
        scene.waits = 0;
        for (int i = 0; i < waited; i++) {
            if (i >= scene.runners.size || scene.waiting[i] != scene.runners.lead[i]) {
                return 1 + i;
            }
        }
        return 0;
    }

    public int count(int what) {
        switch (what) {
            case 0: return scene.pitches.size;
            case 1: return scene.runners.size;
            case 2: return scene.outs;
            case 3: return scene.innings;
            case 4: return scene.worth;
            case 5: return scene.lift;
            case 6: return scene.pop;
            case 7: return scene.wet;
            case 8: return scene.taped;
            case 9: return scene.waits;
            case 10: return throat.traced;
            case 11: return scene.z;
            default: return error(BEYOND);
        }
    }

    public int told(int k) {
        if (!within(k, BEYOND, PARTED)) {
            return error(BEYOND);
        }
        return errors[k];
    }

    // ---- what the acts ask

    private int error(int k) {
        if (k >= 0 && k < errors.length) {
            errors[k]++;
        }
        return LOW - k;
    }

    private boolean isPitch(int pitch) {
        return pitch >= 0 && pitch < scene.pitches.size;
    }

    private boolean isRunner(int runner) {
        return runner >= 0 && runner < scene.runners.size;
    }

    private static boolean within(int v, int least, int most) {
        return v >= least && v <= most;
    }

    private static boolean isDigit(int v) {
        return within(v, 0, 9);
    }

    private static boolean isKindAndM(int km) {
        return within(km, 0, 10 * KINDS - 1);
    }

    private static boolean isFeet(int feet) {
        return within(feet, 0, MOST_FEET);
    }

    private static boolean isUse(int use) {
        return within(use, 0, USES - 1);
    }

    private static boolean isSheet(int sheet) {
        return within(sheet, 0, SHEETS - 1);
    }

    private static int mostOfSetting(int what) {
        switch (what) {
            case 0: return 200;
            case 1: return 200;
            case 2: return 9;
            default: return 2;
        }
    }

    private static boolean isUnder(int kind, int upper) {
        int at = kind;
        for (int i = 0; i < KINDS && at >= 0 && at < KINDS; i++) {
            if (at == upper) {
                return true;
            }
            at = ABOVE[at];
        }
        return false;
    }

    private boolean fitsFrom(int sheet, int runner, int feet) {
        int numbers = sheets.size[sheet];
        if (numbers > scene.pitches.size) {
            return false;
        }
        int safe = scene.safePitches(runner, feet);
        for (int i = 0; i < numbers; i++) {
            if (sheets.read(sheet, i) != ((safe >> i) & 1)) {
                return false;
            }
        }
        return true;
    }

    /** A part (0 above, 1 below the line) of a fraction in lowest terms. */
    private static int partOf(int above, int below, int part) {
        if (above == 0 || below == 0) {
            return part;
        }
        int common = commonOf(Math.abs(above), Math.abs(below));
        if (below < 0) {
            common = -common;
        }
        return (part == 0 ? above : below) / common;
    }

    /** The greatest common divisor of two numbers above 0. */
    private static int commonOf(int one, int other) {
        int a = one;
        int b = other;
        for (int i = 0; i < 64 && b > 0; i++) {
            int rest = a % b;
            a = b;
            b = rest;
        }
        return Math.max(a, 1);
    }

    /** PITCHES 0, 1, .. in rows: one row for each thing that a PITCH has. */
    private static final class Pitches {
        final int[] kind = new int[MOST_PITCHES];
        final int[] m = new int[MOST_PITCHES];
        final int[] weight = new int[MOST_PITCHES];
        final int[] thrown = new int[MOST_PITCHES];
        int size = 0;

        int add(int km, int weightOfIt) {
            int i = size;
            if (i >= MOST_PITCHES) {
                return -1;
            }
            kind[i] = km / 10;
            m[i] = km % 10;
            weight[i] = weightOfIt;
            thrown[i] = 0;
            size++;
            return i;
        }

        int allWeights() {
            int all = 0;
            for (int i = 0; i < size; i++) {
                all += weight[i];
            }
            return all;
        }

        /** The PITCH that a number below all WEIGHTS together tells. */
        int byWeight(int number) {
            int left = number;
            for (int i = 0; i < size; i++) {
                if (left < weight[i]) {
                    return i;
                }
                left -= weight[i];
            }
            return 0;
        }

        void takes(Pitches from) {
            System.arraycopy(from.kind, 0, kind, 0, MOST_PITCHES);
            System.arraycopy(from.m, 0, m, 0, MOST_PITCHES);
            System.arraycopy(from.weight, 0, weight, 0, MOST_PITCHES);
            System.arraycopy(from.thrown, 0, thrown, 0, MOST_PITCHES);
            size = from.size;
        }
    }

    /** RUNNERS 0, 1, .. in rows: one row for each thing that a RUNNER has. */
    private static final class Runners {
        final int[] start = new int[MOST_RUNNERS];
        final int[] pace = new int[MOST_RUNNERS];
        final int[] lead = new int[MOST_RUNNERS];
        final int[] stolen = new int[MOST_RUNNERS];
        final int[] caught = new int[MOST_RUNNERS];
        int size = 0;

        int add(int startOfIt, int paceOfIt) {
            int i = size;
            if (i >= MOST_RUNNERS) {
                return -1;
            }
            start[i] = startOfIt;
            pace[i] = paceOfIt;
            lead[i] = 0;
            stolen[i] = 0;
            caught[i] = 0;
            size++;
            return i;
        }

        int runFrom(int i, int feet) {
            return start[i] + pace[i] * (90 - feet) / 10;
        }

        int backFrom(int i, int feet) {
            return start[i] + pace[i] * feet / 10;
        }

        void takes(Runners from) {
            System.arraycopy(from.start, 0, start, 0, MOST_RUNNERS);
            System.arraycopy(from.pace, 0, pace, 0, MOST_RUNNERS);
            System.arraycopy(from.lead, 0, lead, 0, MOST_RUNNERS);
            System.arraycopy(from.stolen, 0, stolen, 0, MOST_RUNNERS);
            System.arraycopy(from.caught, 0, caught, 0, MOST_RUNNERS);
            size = from.size;
        }
    }

    /** All that an IMAGE keeps, and what follows from it. */
    private static final class Scene {
        final Pitches pitches = new Pitches();
        final Runners runners = new Runners();
        final Text airText = new Text();
        final Text gainText = new Text();
        final byte[] tape = new byte[MOST_BYTES];
        int taped = 0;
        final int[] waiting = new int[MOST_WAITING];
        int waits = 0;
        int lift = 100;
        int pop = 130;
        int wet = 0;
        int outs = 0;
        int innings = 0;
        int worth = 0;
        int z = 1;

        void takes(Scene from) {
            pitches.takes(from.pitches);
            runners.takes(from.runners);
            airText.takes(from.airText);
            gainText.takes(from.gainText);
            System.arraycopy(from.tape, 0, tape, 0, MOST_BYTES);
            taped = from.taped;
            System.arraycopy(from.waiting, 0, waiting, 0, MOST_WAITING);
            waits = from.waits;
            lift = from.lift;
            pop = from.pop;
            wet = from.wet;
            outs = from.outs;
            innings = from.innings;
            worth = from.worth;
            z = from.z;
        }

        /** Gives what the setting was. */
        int change(int what, int v) {
            int before;
            switch (what) {
                case 0:
                    before = lift;
                    lift = v;
                    break;
                case 1:
                    before = pop;
                    pop = v;
                    break;
                case 2:
                    before = wet;
                    wet = v;
                    break;
                default:
                    before = outs;
                    outs = v;
                    break;
            }
            return before;
        }

        Text textOf(int use) {
            return use == AIR ? airText : gainText;
        }

        int gives(int use, int a, int b, int c) {
            if (use == AIR) {
                return held(airText.isThere ? airText.work(a, b, c) : a, 0, 199);
            }
            int plain = a == 1 ? 25 : -50;
            return held(gainText.isThere ? gainText.work(a, b, c) : plain, -99, 99);
        }

        int airByKind(int pitch) {
            int m = pitches.m[pitch];
            int plain = 45 + m;
            switch (pitches.kind[pitch]) {
                case CURVE: return plain + 15;
                case HARD: return plain - 5;
                case WIDE: return plain - 12 - m;
                case SLOW: return plain + 15 + 2 * wet;
                case CUTTER: return plain - 5 + outs;
                case SPIT: return plain + pitches.thrown[pitch] % 5;
                default: return plain;
            }
        }

        int air(int pitch) {
            return gives(AIR, airByKind(pitch), wet, outs);
        }

        int costs(int pitch) {
            switch (pitches.kind[pitch]) {
                case CURVE: return outs;
                case WIDE: return 5 + pitches.m[pitch];
                case SLOW: return outs + 1;
                case SPIT: return wet;
                default: return 0;
            }
        }

        boolean isPicked(int runner, int feet) {
            return runners.backFrom(runner, feet) > lift / 2 + 30;
        }

        int marginFrom(int runner, int pitch, int feet) {
            return lift + air(pitch) + pop - runners.runFrom(runner, feet);
        }

        int gainOf(int marginOfIt) {
            return gives(GAIN, marginOfIt >= 0 ? 1 : 0, marginOfIt, outs);
        }

        int gainFrom(int runner, int pitch, int feet) {
            return gainOf(marginFrom(runner, pitch, feet));
        }

        /** GAINS of all PITCHES, each times its WEIGHT, together. */
        int weighedGains(int runner, int feet) {
            int together = 0;
            for (int i = 0; i < pitches.size; i++) {
                together += pitches.weight[i] * gainFrom(runner, i, feet);
            }
            return together;
        }

        /** WEIGHTS of the PITCHES on which one is SAFE, together. */
        int safeWeights(int runner, int feet) {
            int together = 0;
            for (int i = 0; i < pitches.size; i++) {
                if (marginFrom(runner, i, feet) >= 0) {
                    together += pitches.weight[i];
                }
            }
            return together;
        }

        /** The PITCHES on which one is SAFE, a bit for each. */
        int safePitches(int runner, int feet) {
            int safe = 0;
            for (int i = 0; i < pitches.size; i++) {
                if (marginFrom(runner, i, feet) >= 0) {
                    safe |= 1 << i;
                }
            }
            return safe;
        }

        /** Tells whether he was SAFE. */
        boolean goes(int runner, int pitch) {
            // ahead of all changes: THROWN and OUTS are in AIR and GAIN
            int marginOfIt = marginFrom(runner, pitch, runners.lead[runner]);
            worth = held(worth + gainOf(marginOfIt), -MOST_OFTEN, MOST_OFTEN);
            pitches.thrown[pitch] = oneMore(pitches.thrown[pitch]);
            if (marginOfIt < 0) {
                isOut(runner);
                return false;
            }
            runners.stolen[runner] = oneMore(runners.stolen[runner]);
            runners.lead[runner] = 0;
            return true;
        }

        void isOut(int runner) {
            runners.caught[runner] = oneMore(runners.caught[runner]);
            runners.lead[runner] = 0;
            outs++;
            if (outs >= 3) {
                outs = 0;
                innings = oneMore(innings);
            }
        }

        int draw() {
            z = z * 1103515245 + 12345;
            return z >>> 8;
        }

        /** A try BY DRAWS: tells whether somebody was SAFE. */
        boolean isSafeByDraws() {
            int all = pitches.allWeights();
            if (runners.size <= 0 || all <= 0) {
                return false;
            }
            int runner = draw() % runners.size;
            runners.lead[runner] = draw() % (MOST_FEET + 1);
            int pitch = pitches.byWeight(draw() % all);
            if (draw() % 4 == 0 && isPicked(runner, runners.lead[runner])) {
                isOut(runner);
                return false;
            }
            return goes(runner, pitch);
        }

        private static int held(int v, int least, int most) {
            return Math.max(least, Math.min(most, v));
        }

        private static int oneMore(int often) {
            return Math.min(MOST_OFTEN, often + 1);
        }
    }

    /**
     * A TEXT as steps, each behind what it works on: a number as it is, a NAME as -1 less its place,
     * a sign as less than 0 by its byte.
     */
    private static final class Text {
        final int[] steps = new int[MOST_BYTES];
        private final int[] stack = new int[MOST_BYTES];
        int size = 0;
        boolean isThere = false;

        void takes(Text from) {
            System.arraycopy(from.steps, 0, steps, 0, MOST_BYTES);
            size = from.size;
            isThere = from.isThere;
        }

        void add(int step) {
            if (size < MOST_BYTES) {
                steps[size] = step;
                size++;
            }
        }

        int work(int a, int b, int c) {
            int height = 0;
            for (int i = 0; i < size && height < MOST_BYTES; i++) {
                int step = steps[i];
                if (step >= -NAMES_EACH) {
                    stack[height] = step >= 0 ? step : named(step, a, b, c);
                    height++;
                } else if (step == -'!') {
                    if (height < 1) {
                        return 0;
                    }
                    stack[height - 1] = stack[height - 1] == 0 ? 1 : 0;
                } else {
                    if (height < 2) {
                        return 0;
                    }
                    height--;
                    stack[height - 1] = joined(-step, stack[height - 1], stack[height]);
                }
            }
            return stack[0];
        }

        private static int named(int step, int a, int b, int c) {
            switch (step) {
                case -1: return a;
                case -2: return b;
                default: return c;
            }
        }

        private static int joined(int sign, int x, int y) {
            switch (sign) {
                case '|': return x != 0 || y != 0 ? 1 : 0;
                case '&': return x != 0 && y != 0 ? 1 : 0;
                case '<': return x < y ? 1 : 0;
                case '=': return x == y ? 1 : 0;
                case '>': return x > y ? 1 : 0;
                case '+': return x + y;
                case '-': return x - y;
                case '*': return x * y;
                case '/': return y == 0 ? 0 : x / y;
                case '%': return y == 0 ? 0 : x % y;
                default: return 0;
            }
        }
    }

    /** Reads a TEXT from THE TAPE, byte for byte, into a draft; signs wait until what they work on is read. */
    private static final class Reader {
        private static final int COMPARES = 3;
        private static final int NEGATES = 6;

        final Text draft = new Text();
        private final int[] signs = new int[MOST_BYTES];
        private int height = 0;
        private int open = 0;
        private int groups = 0;
        private int digits = 0;
        private boolean wantsOne = true;

        /** The FAULT, or -1 if there is none: then the draft is the TEXT. */
        int faultOf(byte[] tape, int n, int use) {
            draft.size = 0;
            draft.isThere = true;
            height = 0;
            open = 0;
            groups = 0;
            digits = 0;
            wantsOne = true;
            for (int i = 0; i < n && i < tape.length; i++) {
                int c = tape[i];
                boolean fine = wantsOne ? begins(c, use) : continues(c);
                if (!fine) {
                    return i;
                }
            }
            if (wantsOne || groups > 0) {
                return n;
            }
            settle(1);
            return -1;
        }

        private boolean begins(int c, int use) {
            if (c == '!' || c == '(') {
                if (open >= MOST_OPEN) {
                    return false;
                }
                open++;
                groups += c == '(' ? 1 : 0;
                park(c);
                return true;
            }
            if (isNumeral(c)) {
                draft.add(c - '0');
                digits = 1;
                wantsOne = false;
                return true;
            }
            for (int i = 0; i < NAMES_EACH; i++) {
                if (c == NAMES[use * NAMES_EACH + i]) {
                    draft.add(-1 - i);
                    digits = 0;
                    wantsOne = false;
                    return true;
                }
            }
            return false;
        }

        private boolean continues(int c) {
            if (isNumeral(c)) {
                return lengthens(c - '0');
            }
            digits = 0;
            if (c == ')') {
                return closes();
            }
            int rank = rankOf(c);
            if (rank == 0 || rank == NEGATES) {
                return false;
            }
            settle(rank == COMPARES ? rank + 1 : rank);
            if (rank == COMPARES && height > 0 && rankOf(signs[height - 1]) == COMPARES) {
                return false;
            }
            park(c);
            wantsOne = true;
            return true;
        }

        private boolean lengthens(int digit) {
            int last = draft.size - 1;
            if (digits < 1 || digits >= MOST_DIGITS || last < 0) {
                return false;
            }
            draft.steps[last] = draft.steps[last] * 10 + digit;
            digits++;
            return true;
        }

        private boolean closes() {
            if (groups == 0) {
                return false;
            }
            settle(1);
            // what waits there now is the ( of this one
            if (height > 0) {
                height--;
            }
            open--;
            groups--;
            return true;
        }

        /** Signs of this rank and above, back to the latest ( that is open, wait no longer. */
        private void settle(int rank) {
            while (height > 0 && rankOf(signs[height - 1]) >= rank) {
                height--;
                draft.add(-signs[height]);
                if (signs[height] == '!') {
                    open--;
                }
            }
        }

        private void park(int sign) {
            if (height < MOST_BYTES) {
                signs[height] = sign;
                height++;
            }
        }

        private static boolean isNumeral(int c) {
            return c >= '0' && c <= '9';
        }

        private static int rankOf(int sign) {
            switch (sign) {
                case '|': return 1;
                case '&': return 2;
                case '<': return COMPARES;
                case '=': return COMPARES;
                case '>': return COMPARES;
                case '+': return 4;
                case '-': return 4;
                case '*': return 5;
                case '/': return 5;
                case '%': return 5;
                case '!': return NEGATES;
                default: return 0;
            }
        }
    }

    /** VOICES of a PITCH, and THE TRACE of the latest. */
    private static final class Throat {
        final int[] trace = new int[MOST_BODIES];
        int traced = 0;
        boolean parted = false;
        private int k = 0;
        private int m = 0;
        private int kind = PITCH;

        int speak(int pitch, int kindOfIt, int mOfIt, int voiceOfIt, int x) {
            traced = 0;
            parted = false;
            k = pitch;
            kind = kindOfIt;
            m = mOfIt;
            return say(kindOfIt, voiceOfIt, x, 0);
        }

        /** Says it by the BODY of a KIND, or of the next KIND above that has one. */
        private int say(int from, int voiceOfIt, int x, int depth) {
            int number = bodyOf(from, voiceOfIt);
            if (depth >= DEEPEST) {
                return 0;
            }
            begin(number);
            int deeper = depth + 1;
            switch (number) {
                case 10: return x + k;
                case 11: return say(kind, HISSES, x, deeper) * 2;
                case 12: return say(kind, DROPS, x, deeper) - m;
                case 13: return parts(x);
                case 20: return say(PITCH, HISSES, x, deeper) - 4;
                case 21: return partsOfCurve(x, deeper);
                case 30: return 0 - say(PITCH, DROPS, x, deeper);
                case 40: return say(PITCH, THUDS, x / 2, deeper);
                case 50: return say(CURVE, HISSES, x, deeper) * 3;
                case 51: return say(CURVE, THUDS, x, deeper) ^ k;
                case 60: return say(HARD, DROPS, x + 1, deeper);
                case 70: return 9;
                case 71: return say(PITCH, DROPS, x, deeper) + m;
                default: return 0;
            }
        }

        private int partsOfCurve(int x, int depth) {
            int above = say(PITCH, PARTS, x, depth);
            if (parted) {
                return 0;
            }
            return above + say(kind, DROPS, 1, depth);
        }

        private int parts(int x) {
            int by = m - k;
            if (by == 0) {
                parted = true;
                return 0;
            }
            return x / by;
        }

        private void begin(int number) {
            if (traced < MOST_BODIES) {
                trace[traced] = number;
                traced++;
            }
        }

        private static int bodyOf(int from, int voiceOfIt) {
            int at = from;
            for (int i = 0; i < KINDS && at >= 0 && at < KINDS; i++) {
                int number = BODIES[at * VOICES + voiceOfIt];
                if (number != 0) {
                    return number;
                }
                at = ABOVE[at];
            }
            return 0;
        }
    }

    /** SHEETS 0 .. 3, one behind the other in one row; of 0 bits is one that is missing. */
    private static final class Sheets {
        final int[] bits = new int[SHEETS];
        final int[] size = new int[SHEETS];
        private final int[] numbers = new int[SHEETS * MOST_NUMBERS];

        boolean isMissing(int i) {
            return bits[i] == 0;
        }

        void lay(int i, int bitsOfIt, int n) {
            bits[i] = bitsOfIt;
            size[i] = n;
            for (int at = 0; at < MOST_NUMBERS; at++) {
                numbers[i * MOST_NUMBERS + at] = 0;
            }
        }

        /** Whether n numbers stand from a place on; by subtraction, as a sum could wrap. */
        boolean standsAt(int i, int place, int n) {
            return n >= 0 && place >= 0 && place <= size[i] && n <= size[i] - place;
        }

        int read(int i, int place) {
            return numbers[i * MOST_NUMBERS + place];
        }

        void write(int i, int place, int v) {
            int lowest = bits[i] == 8 ? v & 0xFF : bits[i] == 16 ? v & 0xFFFF : v;
            numbers[i * MOST_NUMBERS + place] = lowest;
        }

        void copy(int i, int place, int other, int otherPlace, int n) {
            System.arraycopy(numbers, i * MOST_NUMBERS + place, numbers, other * MOST_NUMBERS + otherPlace, n);
        }
    }
}
