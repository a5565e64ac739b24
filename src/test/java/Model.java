import java.math.BigInteger;
import java.util.ArrayList;
import java.util.List;

/** The document once more, written for plainness and with the whole Java library, to compare answers with. */
final class Model {
    static final int LOW = -1000000000;

    private static final class Refusal extends RuntimeException {
        final int k;

        Refusal(int k) {
            super(null, null, false, false);
            this.k = k;
        }
    }

    /** A KIND with its VOICES, by Java's own inheritance. */
    static class Pitch {
        int m;
        int weight;
        int thrown;
        Model model;

        int kind() { return 0; }
        int air() { return 45 + m; }
        int costs() { return 0; }
        int k() { return model.s.pitches.indexOf(this); }
        void began(int body) { if (model.trace.size() < 30) model.trace.add(body); }
        int hisses(int x) { began(10); return x + k(); }
        int drops(int x) { began(11); return hisses(x) * 2; }
        int thuds(int x) { began(12); return drops(x) - m; }
        int parts(int x) {
            began(13);
            if (m == k()) throw new Refusal(6);
            return x / (m - k());
        }
    }

    static class Curve extends Pitch {
        @Override int kind() { return 1; }
        @Override int air() { return super.air() + 15; }
        @Override int costs() { return model.s.outs; }
        @Override int hisses(int x) { began(20); return super.hisses(x) - 4; }
        @Override int parts(int x) { began(21); return super.parts(x) + drops(1); }
    }

    static class Hard extends Pitch {
        @Override int kind() { return 2; }
        @Override int air() { return super.air() - 5; }
        @Override int drops(int x) { began(30); return 0 - super.drops(x); }
    }

    static class Wide extends Pitch {
        @Override int kind() { return 3; }
        @Override int air() { return super.air() - 12 - m; }
        @Override int costs() { return 5 + m; }
        @Override int thuds(int x) { began(40); return super.thuds(x / 2); }
    }

    static class Slow extends Curve {
        @Override int kind() { return 4; }
        @Override int air() { return super.air() + 2 * model.s.wet; }
        @Override int costs() { return super.costs() + 1; }
        @Override int hisses(int x) { began(50); return super.hisses(x) * 3; }
        @Override int thuds(int x) { began(51); return super.thuds(x) ^ k(); }
    }

    static class Cutter extends Hard {
        @Override int kind() { return 5; }
        @Override int air() { return super.air() + model.s.outs; }
        @Override int drops(int x) { began(60); return super.drops(x + 1); }
    }

    static class Spit extends Pitch {
        @Override int kind() { return 6; }
        @Override int air() { return super.air() + thrown % 5; }
        @Override int costs() { return model.s.wet; }
        @Override int hisses(int x) { began(70); return 9; }
        @Override int drops(int x) { began(71); return super.drops(x) + m; }
    }

    static final class Runner {
        int start, pace, lead, stolen, caught;

        Runner copy() {
            Runner r = new Runner();
            r.start = start; r.pace = pace; r.lead = lead; r.stolen = stolen; r.caught = caught;
            return r;
        }
    }

    static final class State {
        final List<Pitch> pitches = new ArrayList<>();
        final List<Runner> runners = new ArrayList<>();
        String[] texts = new String[2];
        String tape = "";
        List<Integer> waiting = new ArrayList<>();
        int lift = 100, pop = 130, wet, outs, innings, worth, z = 1;

        State copy(Model model) {
            State s = new State();
            for (Pitch p : pitches) s.pitches.add(model.made(p.kind(), p.m, p.weight, p.thrown));
            for (Runner r : runners) s.runners.add(r.copy());
            s.texts = texts.clone();
            s.tape = tape;
            s.waiting = new ArrayList<>(waiting);
            s.lift = lift; s.pop = pop; s.wet = wet; s.outs = outs; s.innings = innings; s.worth = worth; s.z = z;
            return s;
        }
    }

    State s = new State();
    private State kept;
    private int images;
    private final int[] errors = new int[7];
    List<Integer> trace = new ArrayList<>();
    private final long[][] sheets = new long[4][];
    private final int[] bits = new int[4];

    Pitch made(int kind, int m, int weight, int thrown) {
        Pitch p = switch (kind) {
            case 0 -> new Pitch();
            case 1 -> new Curve();
            case 2 -> new Hard();
            case 3 -> new Wide();
            case 4 -> new Slow();
            case 5 -> new Cutter();
            default -> new Spit();
        };
        p.m = m; p.weight = weight; p.thrown = thrown; p.model = this;
        return p;
    }

    private static void ask(boolean fine, int k) {
        if (!fine) throw new Refusal(k);
    }

    private static void in(int v, int least, int most) {
        ask(v >= least && v <= most, 1);
    }

    private Pitch pitch(int i) {
        in(i, 0, s.pitches.size() - 1);
        return s.pitches.get(i);
    }

    private Runner runner(int i) {
        in(i, 0, s.runners.size() - 1);
        return s.runners.get(i);
    }

    private static boolean under(int kind, int upper) {
        String[] lines = {"0", "10", "20", "30", "410", "520", "60"};
        return lines[kind].indexOf('0' + upper) >= 0;
    }

    /** An act by its name and arguments. */
    int call(String act, long word, int[] a) {
        try {
            return act(act, word, a);
        } catch (Refusal r) {
            errors[r.k]++;
            return LOW - r.k;
        }
    }

    private int act(String act, long word, int[] a) {
        switch (act) {
            case "pitch":
                in(a[0], 0, 69); in(a[1], 0, 9); ask(s.pitches.size() < 6, 4);
                s.pitches.add(made(a[0] / 10, a[0] % 10, a[1], 0));
                return s.pitches.size() - 1;
            case "pitchIs": {
                Pitch p = pitch(a[0]); in(a[1], 0, 5);
                return new int[] {p.kind(), p.m, p.weight, p.thrown, air(p), p.costs()}[a[1]];
            }
            case "become": {
                Pitch p = pitch(a[0]); in(a[1], 0, 69);
                s.pitches.set(a[0], made(a[1] / 10, a[1] % 10, p.weight, p.thrown));
                return p.kind();
            }
            case "as": {
                Pitch p = pitch(a[0]); in(a[1], 0, 6); ask(under(p.kind(), a[1]), 5);
                return p.m;
            }
            case "weighs": {
                Pitch p = pitch(a[0]); in(a[1], 0, 9);
                int was = p.weight; p.weight = a[1];
                return was;
            }
            case "runner": {
                in(a[0], 0, 99); in(a[1], 1, 60); ask(s.runners.size() < 5, 4);
                Runner r = new Runner(); r.start = a[0]; r.pace = a[1];
                s.runners.add(r);
                return s.runners.size() - 1;
            }
            case "runnerIs": {
                Runner r = runner(a[0]); in(a[1], 0, 6);
                return new int[] {r.start, r.pace, r.lead, r.stolen, r.caught, run(r, r.lead), picked(r, r.lead) ? 1 : 0}[a[1]];
            }
            case "leads": {
                Runner r = runner(a[0]); in(a[1], 0, 20);
                int was = r.lead; r.lead = a[1];
                return was;
            }
            case "set": return set(a[0], a[1]);
            case "steal": return goes(runner(a[0]), pitch(a[1])) ? 1 : 0;
            case "over": {
                Runner r = runner(a[0]);
                if (!picked(r, r.lead)) return 0;
                out(r);
                return 1;
            }
            case "feed": case "text": case "untell": case "law": return texts(act, word, a);
            case "margin": case "leadFor": case "bestLead": case "odds": case "go": case "duel": case "surely": case "fits":
            case "loose": case "seed": return wouldBe(act, a);
            default: return rest(act, a);
        }
    }

    private int set(int what, int v) {
        in(what, 0, 3);
        in(v, 0, new int[] {200, 200, 9, 2}[what]);
        int was;
        if (what == 0) { was = s.lift; s.lift = v; }
        else if (what == 1) { was = s.pop; s.pop = v; }
        else if (what == 2) { was = s.wet; s.wet = v; }
        else { was = s.outs; s.outs = v; }
        return was;
    }

    private int texts(String act, long word, int[] a) {
        if (act.equals("feed")) {
            in(a[0], 1, 8); ask(s.tape.length() + a[0] <= 60, 4);
            for (int i = 0; i < a[0]; i++) { s.tape += (char) (word & 255); word >>= 8; }
            return s.tape.length();
        }
        in(a[0], 0, 1);
        if (act.equals("text")) {
            String t = s.tape;
            s.tape = "";
            int fault = new Grammar(a[0]).fault(t);
            if (fault >= 0) return -10 - fault;
            s.texts[a[0]] = t;
            return 1;
        }
        if (act.equals("untell")) {
            int was = s.texts[a[0]] == null ? 0 : 1;
            s.texts[a[0]] = null;
            return was;
        }
        return gives(a[0], a[1], a[2], a[3]);
    }

    private int gives(int use, int a, int b, int c) {
        int least = use == 0 ? 0 : -99;
        int most = use == 0 ? 199 : 99;
        int v;
        if (s.texts[use] != null) v = new Grammar(use).value(s.texts[use], a, b, c);
        else if (use == 0) v = a;
        else v = a == 1 ? 25 : -50;
        return v < least ? least : v > most ? most : v;
    }

    private int air(Pitch p) { return gives(0, p.air(), s.wet, s.outs); }

    private static int run(Runner r, int f) { return r.start + r.pace * (90 - f) / 10; }

    private boolean picked(Runner r, int f) { return r.start + r.pace * f / 10 > s.lift / 2 + 30; }

    private int margin(Runner r, Pitch p, int f) { return s.lift + air(p) + s.pop - run(r, f); }

    private int gain(int margin) { return gives(1, margin >= 0 ? 1 : 0, margin, s.outs); }

    private boolean goes(Runner r, Pitch p) {
        int margin = margin(r, p, r.lead);
        s.worth += gain(margin);
        if (s.worth > 9999) s.worth = 9999;
        if (s.worth < -9999) s.worth = -9999;
        if (p.thrown < 9999) p.thrown++;
        if (margin < 0) {
            out(r);
            return false;
        }
        if (r.stolen < 9999) r.stolen++;
        r.lead = 0;
        return true;
    }

    private void out(Runner r) {
        if (r.caught < 9999) r.caught++;
        r.lead = 0;
        s.outs++;
        if (s.outs == 3) {
            s.outs = 0;
            if (s.innings < 9999) s.innings++;
        }
    }

    private int draw() {
        s.z = s.z * 1103515245 + 12345;
        return s.z >>> 8;
    }

    private int allWeights() { return s.pitches.stream().mapToInt(p -> p.weight).sum(); }

    private boolean tries() {
        if (s.runners.isEmpty() || allWeights() == 0) return false;
        Runner r = s.runners.get(draw() % s.runners.size());
        r.lead = draw() % 21;
        List<Pitch> urn = new ArrayList<>();
        for (Pitch p : s.pitches) for (int i = 0; i < p.weight; i++) urn.add(p);
        Pitch p = urn.get(draw() % urn.size());
        boolean looks = draw() % 4 == 0;
        if (looks && picked(r, r.lead)) {
            out(r);
            return false;
        }
        return goes(r, p);
    }

    private int gains(Runner r, int f) {
        int sum = 0;
        for (Pitch p : s.pitches) sum += p.weight * gain(margin(r, p, f));
        return sum;
    }

    private static int part(int above, int below, int part) {
        if (above == 0) return part;
        int g = BigInteger.valueOf(above).gcd(BigInteger.valueOf(below)).intValue() * (below < 0 ? -1 : 1);
        return part == 0 ? above / g : below / g;
    }

    private int wouldBe(String act, int[] a) {
        if (act.equals("loose")) {
            in(a[0], 1, 30);
            int safe = 0;
            for (int i = 0; i < a[0]; i++) if (tries()) safe++;
            return safe;
        }
        if (act.equals("seed")) { int was = s.z; s.z = a[0]; return was; }
        if (act.equals("fits")) return fits(a);
        Runner r = runner(a[0]);
        switch (act) {
            case "margin": in(a[2], 0, 20); return margin(r, pitch(a[1]), a[2]);
            case "leadFor":
                for (int f = 0; f <= 20; f++) if (margin(r, pitch(a[1]), f) >= 0) return f;
                throw new Refusal(2);
            case "bestLead": {
                in(a[1], 0, 1);
                int most = Integer.MIN_VALUE, best = -1;
                for (int f = 20; f >= 0; f--) if (!picked(r, f) && gains(r, f) >= most) { most = gains(r, f); best = f; }
                ask(best >= 0, 2);
                return a[1] == 0 ? best : most;
            }
            case "odds": case "go": {
                in(a[1], 0, 1); ask(allWeights() != 0, 3);
                int safe = 0;
                for (Pitch p : s.pitches) if (margin(r, p, r.lead) >= 0) safe += p.weight;
                return part(act.equals("odds") ? safe : gains(r, r.lead), allWeights(), a[1]);
            }
            case "duel": {
                Pitch one = pitch(a[1]), other = pitch(a[2]); in(a[3], 0, 1);
                return duel(gain(margin(r, one, r.lead)), gain(margin(r, other, r.lead)), one.costs(), other.costs(), a[3]);
            }
            default: {
                in(a[1], 0, 1);
                int set = 0, many = 0;
                for (int i = 0; i < s.pitches.size(); i++) if (margin(r, s.pitches.get(i), r.lead) >= 0) { set += 1 << i; many++; }
                return a[1] == 0 ? set : many;
            }
        }
    }

    /** The best least over the odds of going 0, 1 and where both columns are worth as much. */
    private static int duel(int a, int b, int c, int d, int part) {
        int above = Math.min(a, b), below = 1;
        if (Math.min(c, d) > above) above = Math.min(c, d);
        // odds q of going with q*a + (1-q)*c = q*b + (1-q)*d
        int q = d - c, all = a - c - b + d;
        if (all < 0) { q = -q; all = -all; }
        if (all > 0 && q > 0 && q < all) {
            int then = q * a + (all - q) * c;
            if (then > above * all) { above = then; below = all; }
        }
        return part(above, below, part);
    }

    private int fits(int[] a) {
        in(a[0], 0, 3);
        Runner r = runner(a[1]);
        in(a[2], 0, 1);
        long[] row = sheets[a[0]];
        ask(row != null, 2);
        int many = 0, least = -1;
        for (int f = 20; f >= 0; f--) {
            boolean so = true;
            for (int i = 0; i < row.length; i++) {
                so = so && i < s.pitches.size() && row[i] == (margin(r, s.pitches.get(i), f) >= 0 ? 1 : 0);
            }
            if (so) { many++; least = f; }
        }
        if (a[2] == 0) return many;
        ask(many > 0, 2);
        return least;
    }

    private int rest(String act, int[] a) {
        switch (act) {
            case "voice": {
                Pitch p = pitch(a[0]); in(a[1], 0, 3);
                trace = new ArrayList<>();
                return switch (a[1]) {
                    case 0 -> p.hisses(a[2]);
                    case 1 -> p.drops(a[2]);
                    case 2 -> p.thuds(a[2]);
                    default -> p.parts(a[2]);
                };
            }
            case "body": ask(a[0] >= 0 && a[0] < trace.size(), 2); return trace.get(a[0]);
            case "sheet":
                in(a[0], 0, 3); ask(List.of(0, 8, 16, 32).contains(a[1]), 1);
                if (a[1] == 0) { sheets[a[0]] = null; return 1; }
                ask(a[2] >= 0, 3); in(a[2], 0, 24);
                sheets[a[0]] = new long[a[2]]; bits[a[0]] = a[1];
                return 1;
            case "put":
                in(a[0], 0, 3); ask(sheets[a[0]] != null, 2); in(a[1], 0, sheets[a[0]].length - 1);
                sheets[a[0]][a[1]] = a[2] & ((1L << bits[a[0]]) - 1);
                return 1;
            case "move": {
                in(a[0], 0, 3); in(a[2], 0, 3);
                long[] from = sheets[a[0]], to = sheets[a[2]];
                ask(from != null && to != null, 2); ask(bits[a[0]] == bits[a[2]], 5);
                ask(a[4] >= 0 && a[1] >= 0 && a[3] >= 0 && (long) a[1] + a[4] <= from.length && (long) a[3] + a[4] <= to.length, 1);
                long[] were = from.clone();
                for (int i = 0; i < a[4]; i++) to[a[3] + i] = were[a[1] + i];
                return a[4];
            }
            case "weightsBy": case "judge": {
                in(a[0], 0, 3); ask(sheets[a[0]] != null, 2);
                int i = 0;
                for (long v : sheets[a[0]]) {
                    if (i >= s.pitches.size()) break;
                    Pitch p = s.pitches.get(i);
                    if (act.equals("judge") ? v != air(p) : v > 9) break;
                    if (act.equals("weightsBy")) p.weight = (int) v;
                    i++;
                }
                return i;
            }
            case "image": kept = s.copy(this); return ++images;
            case "restore": ask(kept != null, 2); s = kept.copy(this); return s.innings;
            case "tell": ask(s.waiting.size() < 24, 4); s.waiting.add(a[0]); return s.waiting.size();
            case "check": {
                List<Integer> were = s.waiting;
                s.waiting = new ArrayList<>();
                for (int i = 0; i < were.size(); i++) {
                    if (i >= s.runners.size() || s.runners.get(i).lead != were.get(i)) return 1 + i;
                }
                return 0;
            }
            case "count":
                in(a[0], 0, 11);
                return new int[] {s.pitches.size(), s.runners.size(), s.outs, s.innings, s.worth, s.lift, s.pop, s.wet,
                    s.tape.length(), s.waiting.size(), trace.size(), s.z}[a[0]];
            default: in(a[0], 1, 6); return errors[a[0]];
        }
    }
}
