/** Runs of 512 calls, made by a fixed rule, on the class and on the Model: all answers are alike. */
public final class ModelTest {
    private static final int RUNS = 3000;
    private static final int CALLS = 512;
    private static final int MOST_A_STEP = 16;
    private static final String[] ACTS = {
        "pitch", "pitchIs", "become", "as", "weighs", "runner", "runnerIs", "leads", "set", "steal", "over", "feed", "text", "untell",
        "law", "margin", "leadFor", "bestLead", "odds", "go", "duel", "surely", "fits", "loose", "seed", "voice", "body", "sheet", "put",
        "move", "weightsBy", "judge", "image", "restore", "tell", "check", "count", "told"};
    /** What an argument of each act may be at most in its ordinary range; z any number. */
    private static final String[] ASKS = {
        "69 9", "5 5", "5 69", "5 6", "5 9", "99 60", "4 6", "4 20", "3 200", "4 5", "4", "8", "1", "1",
        "1 z z z", "4 5 20", "4 5", "4 1", "4 1", "4 1", "4 5 5 1", "4 1", "3 4 1", "30", "z", "5 3 z", "6", "3 32 24", "3 6 z",
        "3 6 3 6 6", "3", "3", "", "", "z", "", "11", "6"};

    private static long state = 20261118;
    private static int wrong = 0;

    private static int below(int n) {
        state = state * 6364136223846793005L + 1442695040888963407L;
        return (int) ((state >>> 33) % n);
    }

    public static void main(String[] args) {
        long asked = 0;
        for (int run = 0; run < RUNS && wrong < 20; run++) {
            asked += runOnce(run);
        }
        System.out.println("ModelTest: " + asked + " answers, " + wrong + " unlike the Model's");
        if (wrong != 0 || asked == 0) {
            System.exit(1);
        }
    }

    private static int runOnce(int run) {
        OffForSecond x = new OffForSecond();
        Model model = new Model();
        boolean prepared = below(4) != 0;
        boolean sheetsAtFirst = below(2) == 0;
        int asked = 0;
        // what is free after 512 calls is not asked: no step below makes more than MOST_A_STEP
        while (asked < CALLS - MOST_A_STEP && wrong < 20) {
            String act = ACTS[below(ACTS.length)];
            if (prepared && asked < 11) {
                act = asked < 6 ? "pitch" : "runner";
            } else if (sheetsAtFirst && asked < 20) {
                act = "sheet";
            }
            if (act.equals("text") && below(3) != 0) {
                asked += tellText(x, model, run);
            } else if (act.equals("check") && below(3) != 0) {
                asked += tellLeads(x, model, run);
            } else if (act.equals("judge") && below(2) != 0) {
                asked += putAir(x, model, run);
            } else if (!act.equals("restore") || below(3) == 0) {
                long word = word();
                compare(x, model, run, indexOf(act), word, arguments(indexOf(act)));
                asked++;
            }
        }
        return asked;
    }

    private static int compare(OffForSecond x, Model model, int run, int act, long word, int[] a) {
        int got = call(x, ACTS[act], word, a);
        int want = model.call(ACTS[act], word, a);
        if (got != want) {
            wrong++;
            System.out.println("run " + run + ": " + ACTS[act] + " " + word + " " + java.util.Arrays.toString(a) + " answered " + got
                + ", the Model " + want);
        }
        return got;
    }

    private static int indexOf(String act) {
        return java.util.Arrays.asList(ACTS).indexOf(act);
    }

    private static int tellText(OffForSecond x, Model model, int run) {
        compare(x, model, run, indexOf("text"), 0, new int[] {below(2)});
        int use = below(2);
        StringBuilder text = new StringBuilder();
        grow(text, use, 3);
        int spoilt = below(3);
        for (int i = 0; i < spoilt && text.length() > 0; i++) {
            char c = "aawwosm0129!!((()))|&<=>+-*/% \u00ff".charAt(below(31));
            if (below(2) == 0) {
                text.insert(below(text.length() + 1), c);
            } else {
                text.setCharAt(below(text.length()), c);
            }
        }
        text.setLength(Math.min(64, text.length()));
        int asked = 2;
        for (int i = 0; i < text.length(); i += 8) {
            int n = Math.min(8, text.length() - i);
            long word = 0;
            for (int j = n - 1; j >= 0; j--) {
                word = word << 8 | text.charAt(i + j);
            }
            compare(x, model, run, indexOf("feed"), word, new int[] {n});
            asked++;
        }
        compare(x, model, run, indexOf("text"), 0, new int[] {use});
        return asked;
    }

    private static void grow(StringBuilder text, int use, int deep) {
        int parts = 1 + below(deep + 1);
        for (int i = 0; i < parts; i++) {
            if (i > 0) {
                text.append("|&<=>+-*/%+-*+-".charAt(below(15)));
            }
            int what = below(8);
            if (what == 0) {
                text.append('!');
            }
            if (what <= 2 && deep > 0) {
                text.append('(');
                grow(text, use, deep - 1);
                text.append(')');
            } else if (what <= 5) {
                text.append((use == 0 ? "awo" : "smo").charAt(below(3)));
            } else {
                text.append(below(below(3) == 0 ? 12000 : 30));
            }
        }
    }

    private static int tellLeads(OffForSecond x, Model model, int run) {
        compare(x, model, run, indexOf("check"), 0, new int[0]);
        int n = below(6);
        for (int i = 0; i < n; i++) {
            int lead = compare(x, model, run, indexOf("runnerIs"), 0, new int[] {i, 2});
            compare(x, model, run, indexOf("tell"), 0, new int[] {lead + below(10) / 9});
        }
        compare(x, model, run, indexOf("check"), 0, new int[0]);
        return 2 + 2 * n;
    }

    private static int putAir(OffForSecond x, Model model, int run) {
        int sheet = below(4);
        int n = below(7);
        for (int i = 0; i < n; i++) {
            int air = compare(x, model, run, indexOf("pitchIs"), 0, new int[] {i, 4});
            compare(x, model, run, indexOf("put"), 0, new int[] {sheet, i, air + below(10) / 9});
        }
        compare(x, model, run, indexOf("judge"), 0, new int[] {sheet});
        return 1 + 2 * n;
    }

    private static long word() {
        long word = 0;
        for (int i = 0; i < 8; i++) {
            word = word << 8 | "awosm0123456789!()|&<=>+-*/%".charAt(below(28));
        }
        return word;
    }

    private static int[] arguments(int act) {
        String[] asks = ASKS[act].isEmpty() ? new String[0] : ASKS[act].split(" ");
        int[] a = new int[asks.length];
        for (int i = 0; i < a.length; i++) {
            if (asks[i].equals("z")) {
                int size = below(5);
                a[i] = size == 0 ? below(1 << 16) * below(1 << 16) : size == 1 ? below(4) : below(300) - 100;
                if (below(30) == 0) {
                    a[i] = Due.EXTREMES[below(5)];
                }
                continue;
            }
            int most = Integer.parseInt(asks[i]);
            a[i] = most == 32 ? 8 * new int[] {0, 1, 1, 2, 2, 4, 4, 3}[below(8)] : below(most + 1);
            if (most == 200 && below(2) == 0) {
                a[i] = below(10);
            }
            if (most == 24 && below(2) == 0) {
                a[i] = below(6);
            }
            int odd = below(60);
            if (odd == 0) {
                a[i] = most + 1;
            } else if (odd == 1) {
                a[i] = -1;
            } else if (odd == 2) {
                a[i] = Due.EXTREMES[below(5)];
            }
        }
        return a;
    }

    private static int call(OffForSecond x, String act, long word, int[] a) {
        return switch (act) {
            case "pitch" -> x.pitch(a[0], a[1]);
            case "pitchIs" -> x.pitchIs(a[0], a[1]);
            case "become" -> x.become(a[0], a[1]);
            case "as" -> x.as(a[0], a[1]);
            case "weighs" -> x.weighs(a[0], a[1]);
            case "runner" -> x.runner(a[0], a[1]);
            case "runnerIs" -> x.runnerIs(a[0], a[1]);
            case "leads" -> x.leads(a[0], a[1]);
            case "set" -> x.set(a[0], a[1]);
            case "steal" -> x.steal(a[0], a[1]);
            case "over" -> x.over(a[0]);
            case "feed" -> x.feed(word, a[0]);
            case "text" -> x.text(a[0]);
            case "untell" -> x.untell(a[0]);
            case "law" -> x.law(a[0], a[1], a[2], a[3]);
            case "margin" -> x.margin(a[0], a[1], a[2]);
            case "leadFor" -> x.leadFor(a[0], a[1]);
            case "bestLead" -> x.bestLead(a[0], a[1]);
            case "odds" -> x.odds(a[0], a[1]);
            case "go" -> x.go(a[0], a[1]);
            case "duel" -> x.duel(a[0], a[1], a[2], a[3]);
            case "surely" -> x.surely(a[0], a[1]);
            case "fits" -> x.fits(a[0], a[1], a[2]);
            case "loose" -> x.loose(a[0]);
            case "seed" -> x.seed(a[0]);
            case "voice" -> x.voice(a[0], a[1], a[2]);
            case "body" -> x.body(a[0]);
            case "sheet" -> x.sheet(a[0], a[1], a[2]);
            case "put" -> x.put(a[0], a[1], a[2]);
            case "move" -> x.move(a[0], a[1], a[2], a[3], a[4]);
            case "weightsBy" -> x.weightsBy(a[0]);
            case "judge" -> x.judge(a[0]);
            case "image" -> x.image();
            case "restore" -> x.restore();
            case "tell" -> x.tell(a[0]);
            case "check" -> x.check();
            case "count" -> x.count(a[0]);
            default -> x.told(a[0]);
        };
    }
}
