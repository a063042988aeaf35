import java.util.Random;

/** Long runs of mixed calls, promises 1 to 28 together, against the model; nothing may throw. */
public final class RandomRunsTest {
    private static final int RUNS = 1500;
    private static final int CALLS = 512;
    private static final int[] WILD = {Integer.MIN_VALUE, Integer.MIN_VALUE + 1, -1000, -2, -1, 0, 1, 2, 3, 4, 5,
        6, 7, 8, 9, 10, 11, 12, 13, 20, 31, 32, 40, 41, 126, 127, 399, 400, 7600, 7999, 8000, 65536 + 83,
        Integer.MAX_VALUE - 1, Integer.MAX_VALUE};
    private static final String SIGNS = "HSG&+-abcs";

    private final Random random;
    private final ScoreNumbers x = new ScoreNumbers();
    private final Model model = new Model();
    private final int run;
    // The rest of a spoken number that is being appended.
    private String coming = "";

    private RandomRunsTest(int run) {
        this.run = run;
        random = new Random(run);
    }

    public static void main(String[] args) {
        for (int run = 0; run < RUNS; run++) {
            RandomRunsTest test = new RandomRunsTest(run);
            try {
                test.play();
            } catch (RuntimeException e) {
                Check.tell("run " + run + " threw " + e);
            }
        }
        Check.end();
    }

    private void play() {
        for (int call = 0; call < CALLS; call++) {
            if (random.nextInt(100) < 35) {
                act();
            } else if (random.nextInt(100) < 45) {
                writeOrUndo();
            } else {
                ask();
            }
        }
    }

    private int pick(int low, int high) {
        return random.nextInt(25) == 0 ? WILD[random.nextInt(WILD.length)] : low + random.nextInt(high - low + 1);
    }

    private int someNumber() {
        int kind = random.nextInt(3);
        return kind == 0 ? pick(1, 7999) : kind == 1 ? pick(1, 1000) : pick(1, 60);
    }

    private int someHearer() {
        // Most of a run goes to few hearers, so that they learn.
        return random.nextInt(3) == 0 ? pick(0, 5) : run % 6;
    }

    private void due(String call, int got, int want) {
        Check.due("run " + run + ": " + call, got, want);
    }

    private void act() {
        int h = someHearer();
        int w = pick(0, 2);
        int n = someNumber();
        switch (random.nextInt(10)) {
            case 0 -> due("learn(" + h + ", " + w + ")", x.learn(h, w), model.putWord(h, w, true));
            case 1, 2 -> due("unlearn(" + h + ", " + w + ")", x.unlearn(h, w), model.putWord(h, w, false));
            case 3 -> {
                int a = pick(1, 12);
                due("attend(" + h + ", " + a + ")", x.attend(h, a), model.attend(h, a));
            }
            case 4 -> {
                int p = random.nextInt(3) == 0 ? pick(1, 9) : pick(1, 3);
                due("set(" + p + ")", x.set(p), model.set(p));
            }
            case 5, 6 -> due("tellText(" + h + ")", x.tellText(h), model.tellText(h));
            default -> {
                int s = pick(0, 3);
                due("tell(" + h + ", " + n + ", " + s + ")", x.tell(h, n, s), model.tell(h, n, s));
            }
        }
    }

    private void writeOrUndo() {
        switch (random.nextInt(12)) {
            case 0 -> due("clearText()", x.clearText(), model.clearText());
            case 1 -> due("undo()", x.undo(), model.undo());
            case 2 -> {
                int c = random.nextInt(4) == 0 ? pick(32, 126) : SIGNS.charAt(random.nextInt(SIGNS.length()));
                due("append(" + c + ")", x.append(c), model.append(c));
            }
            case 3 -> due("fault()", x.fault(), model.fault());
            case 4 -> due("meaning()", x.meaning(), model.meaning());
            case 5 -> due("placeOfText()", x.placeOfText(), model.placeOfText());
            default -> writeOn();
        }
    }

    private void writeOn() {
        if (coming.isEmpty()) {
            var ways = Oracle.WAYS.get(1 + random.nextInt(7999));
            coming = ways.get(random.nextInt(ways.size()));
            due("clearText()", x.clearText(), model.clearText());
        } else {
            int c = coming.charAt(0);
            coming = coming.substring(1);
            due("append(" + c + ")", x.append(c), model.append(c));
        }
    }

    private void ask() {
        int h = someHearer();
        int n = someNumber();
        int p = pick(0, 8);
        int s = pick(0, 3);
        switch (random.nextInt(16)) {
            case 0 -> due("ways(" + n + ")", x.ways(n), model.ways(n));
            case 1 -> due("wayLength(" + n + ", " + p + ")", x.wayLength(n, p), model.wayLength(n, p));
            case 2 -> {
                int i = pick(0, 9);
                due("wayAt(" + n + ", " + p + ", " + i + ")", x.wayAt(n, p, i), model.wayAt(n, p, i));
            }
            case 3 -> due("styled(" + n + ", " + s + ")", x.styled(n, s), model.styled(n, s));
            case 4, 5 -> {
                int what = pick(0, 8);
                due("hearer(" + h + ", " + what + ")", x.hearer(h, what), model.hearer(h, what));
            }
            case 6 -> due("understood(" + h + ", " + n + ", " + p + ")",
                    x.understood(h, n, p), model.understood(h, n, p));
            case 7 -> due("understoodText(" + h + ")", x.understoodText(h), model.understoodText(h));
            case 8 -> due("bestWay(" + h + ", " + n + ")", x.bestWay(h, n), model.bestWay(h, n));
            case 9 -> due("commonWay(" + n + ")", x.commonWay(n), model.commonWay(n));
            case 10 -> due("reach(" + n + ", " + s + ")", x.reach(n, s), model.reach(n, s));
            case 11 -> {
                int many = pick(1, 40);
                due("untellable(" + h + ", " + n + ", " + many + ")",
                        x.untellable(h, n, many), model.untellable(h, n, many));
            }
            case 12, 13 -> {
                int ago = pick(0, 11);
                int what = pick(0, 4);
                due("log(" + ago + ", " + what + ")", x.log(ago, what), model.log(ago, what));
            }
            case 14 -> {
                int what = pick(0, 3);
                due("sum(" + what + ")", x.sum(what), model.sum(what));
            }
            default -> {
                due("patience()", x.patience(), model.patience());
                Check.due("run " + run + ": share()", x.share(), model.share());
            }
        }
    }
}
