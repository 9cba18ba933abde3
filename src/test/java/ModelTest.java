import java.util.Random;

/** Long runs of calls by chance (always the same ones), each answer held against the model's. */
public final class ModelTest {
    private static final Check CHECK = new Check("ModelTest");
    private static final int RUNS = 1500;
    private static final int CALLS = 512;
    private static final int KINDS_OF_CALLS = 29;
    private static final String ODD_LETTERS = "hbfpaoexn0123456789,;z\u00e9";
    private static final int[] FAR = {Integer.MIN_VALUE, Integer.MAX_VALUE, -1000, 1000, 256, 65536, 1 << 30, -1 << 30};

    private final Random random;
    private final BetsOnBets x = new BetsOnBets();
    private final Model model = new Model();
    private int calls = 0;

    private ModelTest(long seed) {
        random = new Random(seed);
    }

    public static void main(String[] args) {
        for (int run = 0; run < RUNS; run++) {
            new ModelTest(run).run(run);
        }
        CHECK.end();
    }

    private void run(int run) {
        int letters = random.nextInt(4) * 80;
        while (calls < letters) {
            innByChance(run);
        }
        while (calls < CALLS) {
            if (random.nextInt(60) == 0) {
                innByChance(run);
            } else {
                callByChance(run);
            }
        }
    }

    private void due(int run, String call, int got, int want) {
        calls++;
        CHECK.due("run " + run + ", call " + calls + ", " + call, got, want);
    }

    /** A number near the bounds, seldom one far off. */
    private int near(int below, int above) {
        if (random.nextInt(25) == 0) {
            return FAR[random.nextInt(FAR.length)];
        }
        return below + random.nextInt(above - below + 1);
    }

    private void innByChance(int run) {
        StringBuilder text = new StringBuilder();
        for (int n = 1 + random.nextInt(6); n > 0; n--) {
            text.append(statement());
        }
        if (random.nextInt(4) == 0) {
            text.setCharAt(random.nextInt(text.length()), ODD_LETTERS.charAt(random.nextInt(ODD_LETTERS.length())));
        }
        if (random.nextInt(8) == 0) {
            text.setLength(random.nextInt(text.length()));
        }
        for (int i = 0; i < text.length(); i++) {
            due(run, "letter", x.letter(text.charAt(i)), model.letter(text.charAt(i)));
        }
        due(run, "inn of " + text, x.inn(), model.inn());
    }

    private String statement() {
        switch (random.nextInt(5)) {
            case 0:
                return "h" + number() + ";";
            case 1:
                return "f" + random.nextInt(random.nextInt(9) == 0 ? 10 : 4) + "," + number() + ";";
            default:
                int bettor = random.nextInt(4);
                int holder = random.nextInt(12) == 0 ? random.nextInt(10) : (bettor + 1 + random.nextInt(3)) % 4;
                return "b" + "paoexn".charAt(random.nextInt(6)) + mark() + mark() + number() + "," + random.nextInt(10)
                        + bettor + holder + ";";
        }
    }

    private String number() {
        int number = random.nextInt(random.nextInt(3) == 0 ? 10 : 100);
        return random.nextBoolean() && number < 10 ? "0" + number : "" + number;
    }

    private String mark() {
        if (random.nextInt(30) == 0) {
            return "" + "hb".charAt(random.nextInt(2)) + random.nextInt(10);
        }
        return random.nextInt(3) == 0 ? "b" + random.nextInt(6) : "h" + random.nextInt(Math.max(1, model.count(0)));
    }

    private void callByChance(int run) {
        int bet = near(-1, 6);
        int person = near(-1, 4);
        int end = near(-1, 1 << model.count(0));
        int what = near(-1, 2);
        int v = near(-1, 100);
        switch (random.nextInt(KINDS_OF_CALLS)) {
            case 0 -> due(run, "letter(" + v + ")", x.letter(v), model.letter(v));
            case 1 -> due(run, "chance(" + bet + ")", x.chance(bet), model.chance(bet));
            case 2, 3 -> {
                int number = near(-1, 7);
                due(run, "bet(" + bet + ", " + number + ")", x.bet(bet, number), model.bet(bet, number));
            }
            case 4 -> due(run, "set(" + bet + ", " + what + ", " + v + ")", x.set(bet, what, v), model.set(bet, what, v));
            case 5 -> {
                int odds = near(-1, 10);
                due(run, "set(" + bet + ", 1, " + odds + ")", x.set(bet, 1, odds), model.set(bet, 1, odds));
            }
            case 6 -> due(run, "fund(" + person + ", " + v + ")", x.fund(person, v), model.fund(person, v));
            case 7 -> due(run, "ways(" + end + ", " + what + ")", x.ways(end, what), model.ways(end, what));
            case 8 -> due(run, "standing(" + bet + ", " + end + ")", x.standing(bet, end), model.standing(bet, end));
            case 9 -> due(run, "purse(" + person + ", " + end + ")", x.purse(person, end), model.purse(person, end));
            case 10 -> due(run, "mean(" + person + ")", x.mean(person), model.mean(person));
            case 11 -> due(run, "worst(" + person + ", " + what + ")", x.worst(person, what), model.worst(person, what));
            case 12 -> due(run, "best(" + person + ", " + what + ")", x.best(person, what), model.best(person, what));
            case 13 -> due(run, "sure(" + person + ")", x.sure(person), model.sure(person));
            case 14 -> due(run, "likely(" + person + ")", x.likely(person), model.likely(person));
            case 15 -> due(run, "voids()", x.voids(), model.voids());
            case 16 -> due(run, "sparing(" + person + ")", x.sparing(person), model.sparing(person));
            case 17 -> due(run, "safeOdds(" + bet + ")", x.safeOdds(bet), model.safeOdds(bet));
            case 18 -> due(run, "host()", x.host(), model.host());
            case 19 -> due(run, "settling(" + end + ")", x.settling(end), model.settling(end));
            case 20 -> due(run, "cannotPay(" + end + ")", x.cannotPay(end), model.cannotPay(end));
            case 21 -> due(run, "rings()", x.rings(), model.rings());
            case 22 -> rowByChance(run);
            case 23 -> due(run, "fitting(" + what + ")", x.fitting(what), model.fitting(what));
            case 24 -> due(run, "judge(" + end + ")", x.judge(end), model.judge(end));
            case 25 -> {
                int races = near(-1, 31);
                int z = random.nextInt();
                due(run, "seeds(" + races + ", " + z + ", " + person + ")", x.seeds(races, z, person),
                        model.seeds(races, z, person));
            }
            case 26 -> due(run, "image()", x.image(), model.image());
            case 27 -> due(run, "on()", x.on(), model.on());
            default -> {
                int which = near(-1, 18);
                due(run, "count(" + which + ")", x.count(which), model.count(which));
            }
        }
    }

    /** A number of the ROW: mostly one that fits some END, because others seldom fit any. */
    private void rowByChance(int run) {
        int person = model.count(4);
        int end = random.nextInt(1 << model.count(0));
        int v = person < 4 && random.nextInt(4) > 0 ? model.purse(person, end) + 500 : near(-1, 1000);
        due(run, "row(" + v + ")", x.row(v), model.row(v));
    }
}
