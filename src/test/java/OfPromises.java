/** Sentences of the promises, call by call. */
final class OfPromises {
    private static final int LEAST = Refused.LEAST;
    private static final int MOST = Refused.MOST;
    private final Check check;
    private final Refused refused;

    OfPromises(Check check) {
        this.check = check;
        refused = new Refused(check);
    }

    void run() {
        newObject();
        letter();
        inn();
        chanceAndBet();
        set();
        fund();
        waysAndStanding();
        purseAndMean();
        worstAndBest();
        sureLikelyVoids();
        sparingSafeOddsHost();
        settlingShortRings();
        row();
        fittingAndJudge();
        seeds();
        imageAndOn();
        count();
        lastCall();
    }

    private void due(String call, long got, long want) {
        check.due(call, got, want);
    }

    private void sentence(int promise, String words) {
        check.sentence("Promise " + promise, words);
    }

    private void newObject() {
        sentence(1, "No HAPPENINGS, no BETS.");
        BetsOnBets x = new BetsOnBets();
        int[] counts = {0, 0, 1, 0, 0, 0};
        for (int what = 0; what < 6; what++) {
            due("count(" + what + ")", x.count(what), counts[what]);
        }
        due("ways(0, 0)", x.ways(0, 0), 1);
        due("ways(0, 1)", x.ways(0, 1), 0);
        for (int person = 0; person < 4; person++) {
            due("purse()", x.purse(person, 0), 0);
            due("mean()", x.mean(person), 0);
            due("worst(, 0)", x.worst(person, 0), 0);
            due("worst(, 1)", x.worst(person, 1), 0);
            due("best(, 0)", x.best(person, 0), 0);
            due("best(, 1)", x.best(person, 1), 0);
            due("sure()", x.sure(person), 0);
            due("likely()", x.likely(person), 0);
            due("sparing()", x.sparing(person), -9);
            due("seeds()", x.seeds(30, 1, person), 0);
        }
        due("voids()", x.voids(), 0);
        due("host()", x.host(), 0);
        due("settling(0)", x.settling(0), 0);
        due("cannotPay(0)", x.cannotPay(0), 0);
        due("rings()", x.rings(), 0);
        due("fitting(0)", x.fitting(0), 1);
        due("fitting(1)", x.fitting(1), 1);
        due("judge(0)", x.judge(0), -9);
        due("chance(0)", x.chance(0), -1);
        due("bet(0, 0)", x.bet(0, 0), -1);
        due("safeOdds(0)", x.safeOdds(0), -1);
        due("on()", x.on(), -3);
        due("objects stand alone", new BetsOnBets().count(11), 0);
    }

    private void letter() {
        sentence(2, "A letter (0 .. 255) comes: how many there are.");
        BetsOnBets x = new BetsOnBets();
        for (int n = 1; n <= 80; n++) {
            due("letter()", x.letter(n % 2 == 0 ? 0 : 255), n);
            due("count(5)", x.count(5), n);
        }
        due("inn()", x.inn(), -1000);
        due("the first again", x.letter('h'), 1);
        sentence(2, "-4;");
        refused.by(-4, "letter(-1)", y -> y.letter(-1));
        refused.by(-4, "letter(least)", y -> y.letter(LEAST));
        due("letter(-1) when full", filled(80).letter(-1), -4);
        sentence(2, "-6 (255; 80, too).");
        refused.by(-6, "letter(256)", y -> y.letter(256));
        refused.by(-6, "letter(360), an h by another 256", y -> y.letter(256 + 'h'));
        refused.by(-6, "letter(most)", y -> y.letter(MOST));
        due("letter 80", filled(79).letter(0), 80);
        due("letter 81", filled(80).letter(0), -6);
        due("count(5)", filled(81).count(5), 80);
        due("count(16)", filled(83).count(16), 3);
    }

    private static BetsOnBets filled(int letters) {
        BetsOnBets x = new BetsOnBets();
        Check.letters(x, "f".repeat(letters));
        return x;
    }

    private void inn() {
        sentence(3, "The letters become an INN, and are no more");
        BetsOnBets x = new BetsOnBets();
        Check.letters(x, "h1;");
        due("count(0) ahead of inn()", x.count(0), 0);
        due("inn()", x.inn(), 1);
        due("count(0)", x.count(0), 1);
        due("count(5)", x.count(5), 0);
        due("inn() again", x.inn(), -1000);
        due("count(0)", x.count(0), 1);
        due("letter()", x.letter('h'), 1);
        sentence(3, "(with a FAULT neither):");
        for (String text : new String[] {"h1;x", "h0;", "h1", "bph3h31,001;"}) {
            BetsOnBets y = new BetsOnBets();
            Check.letters(y, text);
            due("inn() of " + text, y.inn() <= -1000 ? 1 : 0, 1);
            due("count(5) after " + text, y.count(5), 0);
            due("an INN after " + text, Check.inn(y, "h2;"), 1);
            due("chance(0) after " + text, y.chance(0), 2);
        }
        sentence(3, "how many STATEMENTS;");
        due("1", Check.inn(new BetsOnBets(), "h1;"), 1);
        due("3", Check.inn(new BetsOnBets(), "h1;bph0h01,001;f0,1;"), 3);
        due("16", Check.inn(new BetsOnBets(), "f0,1;".repeat(16)), 16);
        sentence(3, "the FAULT (nothing is counted).");
        BetsOnBets faulty = new BetsOnBets();
        String[] texts = {"", "x", "h1", "h0;", "f4,1;", "h1;h1;h1;h1;h1;", "bpb6b01,001;"};
        int[] faults = {-1000, -1000, -1002, -2000, -2000, -2012, -2000};
        for (int i = 0; i < texts.length; i++) {
            due("inn() of " + texts[i], Check.inn(faulty, texts[i]), faults[i]);
        }
        for (int what = 11; what <= 16; what++) {
            due("count(" + what + ")", faulty.count(what), 0);
        }
    }

    private void chanceAndBet() {
        sentence(4, "CHANCE.");
        BetsOnBets x = Check.told("h1;h99;", "bah0b19,801;bnb5h11,032;");
        due("chance(0)", x.chance(0), 1);
        due("chance(1)", x.chance(1), 99);
        sentence(4, "-1.");
        refused.by(-1, "chance(-1)", y -> y.chance(-1));
        refused.by(-1, "chance(3)", y -> y.chance(3));
        refused.by(-1, "chance(least)", y -> y.chance(LEAST));
        refused.by(-1, "chance(most)", y -> y.chance(MOST));
        due("of four, chance(4)", Check.told("h1;h1;h1;h1;").chance(4), -1);
        sentence(5, "Of a BET: 0 KIND (0 p, 1 a, 2 o, 3 e, 4 x, 5 n), 1, 2 MARKS (a HAPPENING its number, a BET 10 more), 3"
                + " STAKE, 4 ODDS, 5 BETTOR, 6 HOLDER.");
        int[][] want = {{1, 0, 11, 9, 8, 0, 1}, {5, 15, 1, 1, 0, 3, 2}};
        for (int what = 0; what < 7; what++) {
            due("bet(0, " + what + ")", x.bet(0, what), want[0][what]);
            due("bet(1, " + what + ")", x.bet(1, what), want[1][what]);
        }
        for (int kind = 0; kind < 6; kind++) {
            due("KIND " + kind, Check.told("b" + "paoexn".charAt(kind) + "b0b01,001;").bet(0, 0), kind);
        }
        sentence(5, "-1;");
        refused.by(-1, "bet(-1, 0)", y -> y.bet(-1, 0));
        refused.by(-1, "bet(3, 0)", y -> y.bet(3, 0));
        refused.by(-1, "bet(3, 7)", y -> y.bet(3, 7));
        refused.by(-1, "bet(least, 0)", y -> y.bet(LEAST, 0));
        refused.by(-1, "bet(most, 0)", y -> y.bet(MOST, 0));
        sentence(5, "-2.");
        refused.by(-2, "bet(0, -1)", y -> y.bet(0, -1));
        refused.by(-2, "bet(0, 7)", y -> y.bet(0, 7));
        refused.by(-2, "bet(2, least)", y -> y.bet(2, LEAST));
        refused.by(-2, "bet(2, most)", y -> y.bet(2, MOST));
    }

    private void set() {
        sentence(6, "STAKE (what 0), ODDS (1) becomes v: what it was.");
        BetsOnBets x = Examples.four();
        due("set(1, 0, 1)", x.set(1, 0, 1), 5);
        due("set(1, 0, 99)", x.set(1, 0, 99), 1);
        due("set(1, 0, 99) again", x.set(1, 0, 99), 99);
        due("set(1, 1, 0)", x.set(1, 1, 0), 3);
        due("set(1, 1, 9)", x.set(1, 1, 9), 0);
        int[] want = {1, 10, 1, 99, 9, 1, 2};
        for (int what = 0; what < 7; what++) {
            due("bet(1, " + what + ")", x.bet(1, what), want[what]);
        }
        due("bet(0, 3)", x.bet(0, 3), 10);
        due("bet(2, 4)", x.bet(2, 4), 1);
        due("count(3)", x.count(3), 129);
        due("purse(1, 0)", x.purse(1, 0), 891 + 10);
        sentence(6, "-1;");
        refused.by(-1, "set(-1, 0, 5)", y -> y.set(-1, 0, 5));
        refused.by(-1, "set(3, 0, 5)", y -> y.set(3, 0, 5));
        refused.by(-1, "set(3, 2, 0)", y -> y.set(3, 2, 0));
        refused.by(-1, "set(least, 0, 5)", y -> y.set(LEAST, 0, 5));
        refused.by(-1, "set(most, 0, 5)", y -> y.set(MOST, 0, 5));
        sentence(6, "-2;");
        refused.by(-2, "set(0, -1, 5)", y -> y.set(0, -1, 5));
        refused.by(-2, "set(0, 2, 5)", y -> y.set(0, 2, 5));
        refused.by(-2, "set(0, 2, 0)", y -> y.set(0, 2, 0));
        refused.by(-2, "set(0, 3, 100)", y -> y.set(0, 3, 100));
        refused.by(-2, "set(0, least, 5)", y -> y.set(0, LEAST, 5));
        refused.by(-2, "set(0, most, 5)", y -> y.set(0, MOST, 5));
        sentence(6, "-4 (STAKE below 1);");
        refused.by(-4, "set(0, 0, 0)", y -> y.set(0, 0, 0));
        refused.by(-4, "set(0, 0, -1)", y -> y.set(0, 0, -1));
        refused.by(-4, "set(0, 0, least)", y -> y.set(0, 0, LEAST));
        refused.by(-4, "set(0, 1, -1)", y -> y.set(0, 1, -1));
        refused.by(-4, "set(0, 1, least)", y -> y.set(0, 1, LEAST));
        sentence(6, "-6.");
        refused.by(-6, "set(0, 0, 100)", y -> y.set(0, 0, 100));
        refused.by(-6, "set(0, 0, most)", y -> y.set(0, 0, MOST));
        refused.by(-6, "set(0, 1, 10)", y -> y.set(0, 1, 10));
        refused.by(-6, "set(0, 1, most)", y -> y.set(0, 1, MOST));
    }

    private void fund() {
        sentence(7, "FUND: what it was.");
        BetsOnBets x = new BetsOnBets();
        for (int person = 0; person < 4; person++) {
            due("fund(, 0)", x.fund(person, 0), 50);
            due("fund(, 99)", x.fund(person, 99), 0);
            due("fund(, " + person + ")", x.fund(person, person), 99);
        }
        for (int person = 0; person < 4; person++) {
            due("fund(" + person + ", 50)", x.fund(person, 50), person);
        }
        sentence(7, "-1;");
        refused.by(-1, "fund(-1, 5)", y -> y.fund(-1, 5));
        refused.by(-1, "fund(4, 5)", y -> y.fund(4, 5));
        refused.by(-1, "fund(4, -1)", y -> y.fund(4, -1));
        refused.by(-1, "fund(4, 100)", y -> y.fund(4, 100));
        refused.by(-1, "fund(least, 5)", y -> y.fund(LEAST, 5));
        refused.by(-1, "fund(most, 5)", y -> y.fund(MOST, 5));
        sentence(7, "-4;");
        refused.by(-4, "fund(0, -1)", y -> y.fund(0, -1));
        refused.by(-4, "fund(3, least)", y -> y.fund(3, LEAST));
        sentence(7, "-6 99.");
        refused.by(-6, "fund(0, 100)", y -> y.fund(0, 100));
        refused.by(-6, "fund(3, most)", y -> y.fund(3, MOST));
    }

    private void waysAndStanding() {
        sentence(8, "WAYS: how many (what 0), the first (1; -9).");
        BetsOnBets x = Check.told("h50;", "bxh0b01,001;bah0h01,001;");
        due("ways(0, 0)", x.ways(0, 0), 2);
        due("ways(0, 1)", x.ways(0, 1), 2);
        due("ways(1, 0)", x.ways(1, 0), 0);
        due("ways(1, 1)", x.ways(1, 1), -9);
        due("-9 is no REFUSAL", x.count(11) + x.count(12), 0);
        sentence(8, "-1;");
        refused.by(-1, "ways(-1, 0)", y -> y.ways(-1, 0));
        refused.by(-1, "ways(8, 0)", y -> y.ways(8, 0));
        refused.by(-1, "ways(8, 2)", y -> y.ways(8, 2));
        refused.by(-1, "ways(least, 1)", y -> y.ways(LEAST, 1));
        refused.by(-1, "ways(most, 1)", y -> y.ways(MOST, 1));
        sentence(8, "-2.");
        refused.by(-2, "ways(0, -1)", y -> y.ways(0, -1));
        refused.by(-2, "ways(7, 2)", y -> y.ways(7, 2));
        refused.by(-2, "ways(0, least)", y -> y.ways(0, LEAST));
        refused.by(-2, "ways(0, most)", y -> y.ways(0, MOST));
        sentence(9, "STANDING.");
        due("standing(0, 0)", x.standing(0, 0), 2);
        due("standing(1, 0)", x.standing(1, 0), 1);
        due("standing(1, 1)", x.standing(1, 1), 2);
        due("standing(1, 3) of the four", Examples.four().standing(1, 3), 0);
        sentence(9, "-1.");
        refused.by(-1, "standing(-1, 0)", y -> y.standing(-1, 0));
        refused.by(-1, "standing(3, 0)", y -> y.standing(3, 0));
        refused.by(-1, "standing(0, -1)", y -> y.standing(0, -1));
        refused.by(-1, "standing(0, 8)", y -> y.standing(0, 8));
        refused.by(-1, "standing(3, 8)", y -> y.standing(3, 8));
        refused.by(-1, "standing(least, 0)", y -> y.standing(LEAST, 0));
        refused.by(-1, "standing(most, 0)", y -> y.standing(MOST, 0));
        refused.by(-1, "standing(0, least)", y -> y.standing(0, LEAST));
        refused.by(-1, "standing(0, most)", y -> y.standing(0, MOST));
    }

    private void purseAndMean() {
        sentence(10, "PURSE.");
        due("purse(1, 1)", Examples.four().purse(1, 1), -25);
        due("purse(3, 3)", Examples.four().purse(3, 3), -20);
        sentence(10, "Refused as told: -1.");
        refused.farBy(-1, "purse(-1, 0)", y -> y.purse(-1, 0));
        refused.farBy(-1, "purse(4, 0)", y -> y.purse(4, 0));
        refused.farBy(-1, "purse(0, -1)", y -> y.purse(0, -1));
        refused.farBy(-1, "purse(0, 8)", y -> y.purse(0, 8));
        refused.farBy(-1, "purse(4, 8)", y -> y.purse(4, 8));
        refused.farBy(-1, "purse(least, 0)", y -> y.purse(LEAST, 0));
        refused.farBy(-1, "purse(most, 0)", y -> y.purse(MOST, 0));
        refused.farBy(-1, "purse(0, least)", y -> y.purse(0, LEAST));
        refused.farBy(-1, "purse(0, most)", y -> y.purse(0, MOST));
        sentence(11, "MEAN.");
        due("mean(2)", Examples.four().mean(2), -2100);
        sentence(11, "Refused as told: -1.");
        refused.farBy(-1, "mean(-1)", y -> y.mean(-1));
        refused.farBy(-1, "mean(4)", y -> y.mean(4));
        refused.farBy(-1, "mean(least)", y -> y.mean(LEAST));
        refused.farBy(-1, "mean(most)", y -> y.mean(MOST));
    }

    private void worstAndBest() {
        sentence(12, "WORST: PURSE (what 0), the END (1).");
        due("worst(3, 0)", Examples.four().worst(3, 0), -20);
        due("worst(3, 1)", Examples.four().worst(3, 1), 3);
        sentence(12, "Refused as told: -1;");
        refused.farBy(-1, "worst(-1, 0)", y -> y.worst(-1, 0));
        refused.farBy(-1, "worst(4, 1)", y -> y.worst(4, 1));
        refused.farBy(-1, "worst(4, 2)", y -> y.worst(4, 2));
        refused.farBy(-1, "worst(least, 0)", y -> y.worst(LEAST, 0));
        refused.farBy(-1, "worst(most, 0)", y -> y.worst(MOST, 0));
        sentence(12, "-2.");
        refused.farBy(-2, "worst(0, -1)", y -> y.worst(0, -1));
        refused.farBy(-2, "worst(3, 2)", y -> y.worst(3, 2));
        refused.farBy(-2, "worst(0, least)", y -> y.worst(0, LEAST));
        refused.farBy(-2, "worst(0, most)", y -> y.worst(0, MOST));
        sentence(13, "BEST likewise.");
        due("best(2, 0)", Examples.four().best(2, 0), 25);
        due("best(2, 1)", Examples.four().best(2, 1), 3);
        sentence(13, "Refused as told: -1;");
        refused.farBy(-1, "best(-1, 0)", y -> y.best(-1, 0));
        refused.farBy(-1, "best(4, 1)", y -> y.best(4, 1));
        refused.farBy(-1, "best(4, 2)", y -> y.best(4, 2));
        refused.farBy(-1, "best(least, 0)", y -> y.best(LEAST, 0));
        refused.farBy(-1, "best(most, 0)", y -> y.best(MOST, 0));
        sentence(13, "-2.");
        refused.farBy(-2, "best(0, -1)", y -> y.best(0, -1));
        refused.farBy(-2, "best(3, 2)", y -> y.best(3, 2));
        refused.farBy(-2, "best(0, least)", y -> y.best(0, LEAST));
        refused.farBy(-2, "best(0, most)", y -> y.best(0, MOST));
    }

    private void sureLikelyVoids() {
        sentence(14, "SURE: 1, 0.");
        BetsOnBets sure = Check.told("h50;", "bph0h010,001;");
        due("sure(1)", sure.sure(1), 1);
        due("sure(0)", sure.sure(0), 0);
        sentence(14, "-1.");
        refused.by(-1, "sure(-1)", y -> y.sure(-1));
        refused.by(-1, "sure(4)", y -> y.sure(4));
        refused.by(-1, "sure(least)", y -> y.sure(LEAST));
        refused.by(-1, "sure(most)", y -> y.sure(MOST));
        sentence(15, "LIKELY.");
        due("likely(3)", Examples.four().likely(3), 90);
        sentence(15, "-1.");
        refused.by(-1, "likely(-1)", y -> y.likely(-1));
        refused.by(-1, "likely(4)", y -> y.likely(4));
        refused.by(-1, "likely(least)", y -> y.likely(LEAST));
        refused.by(-1, "likely(most)", y -> y.likely(MOST));
        sentence(16, "VOIDS (bits).");
        due("voids()", Check.told("h50;", "bph0h01,001;bpb1b11,001;bah0h01,001;boh0b31,001;").voids(), 10);
    }

    private void sparingSafeOddsHost() {
        sentence(17, "SPARING; -9.");
        due("sparing(1)", Examples.four().sparing(1), 100);
        BetsOnBets none = Examples.four();
        due("sparing(3)", none.sparing(3), -9);
        due("-9 is no REFUSAL", none.count(11), 0);
        sentence(17, "-1.");
        refused.by(-1, "sparing(-1)", y -> y.sparing(-1));
        refused.by(-1, "sparing(4)", y -> y.sparing(4));
        refused.by(-1, "sparing(least)", y -> y.sparing(LEAST));
        refused.by(-1, "sparing(most)", y -> y.sparing(MOST));
        sentence(18, "SAFE ODDS; -9.");
        due("safeOdds(0)", Examples.four().safeOdds(0), 2);
        due("safeOdds(1)", none.safeOdds(1), -9);
        due("-9 is no REFUSAL", none.count(11), 0);
        sentence(18, "-1.");
        refused.by(-1, "safeOdds(-1)", y -> y.safeOdds(-1));
        refused.by(-1, "safeOdds(3)", y -> y.safeOdds(3));
        refused.by(-1, "safeOdds(least)", y -> y.safeOdds(LEAST));
        refused.by(-1, "safeOdds(most)", y -> y.safeOdds(MOST));
        sentence(19, "HOST.");
        due("host()", Examples.four().host(), 3);
    }

    private void settlingShortRings() {
        sentence(20, "SETTLING.");
        due("settling(2)", Examples.four().settling(2), 3);
        due("settling(3)", Examples.four().settling(3), 2);
        sentence(20, "-1.");
        refused.by(-1, "settling(-1)", y -> y.settling(-1));
        refused.by(-1, "settling(8)", y -> y.settling(8));
        refused.by(-1, "settling(least)", y -> y.settling(LEAST));
        refused.by(-1, "settling(most)", y -> y.settling(MOST));
        sentence(21, "SHORT (bits).");
        BetsOnBets x = Examples.four();
        x.fund(0, 9);
        x.fund(2, 34);
        due("cannotPay(0)", x.cannotPay(0), 5);
        due("cannotPay(1)", x.cannotPay(1), 0);
        sentence(21, "-1.");
        refused.by(-1, "cannotPay(-1)", y -> y.cannotPay(-1));
        refused.by(-1, "cannotPay(8)", y -> y.cannotPay(8));
        refused.by(-1, "cannotPay(least)", y -> y.cannotPay(LEAST));
        refused.by(-1, "cannotPay(most)", y -> y.cannotPay(MOST));
        sentence(22, "RINGS (bits).");
        due("rings()", Check.told("h1;", "bph0h01,001;beb2h01,001;beh0b11,001;bpb2b21,001;").rings(), 6);
    }

    private void row() {
        sentence(23, "A number more of the ROW (0 .. 999): how many.");
        BetsOnBets x = new BetsOnBets();
        due("row(0)", x.row(0), 1);
        due("row(999)", x.row(999), 2);
        due("row(0)", x.row(0), 3);
        due("row(1)", x.row(1), 4);
        due("count(4)", x.count(4), 4);
        sentence(23, "-4;");
        refused.by(-4, "row(-1)", y -> y.row(-1));
        refused.by(-4, "row(least)", y -> y.row(LEAST));
        due("row(-1) when full", x.row(-1), -4);
        sentence(23, "-6 (999; 4, too).");
        refused.by(-6, "row(1000)", y -> y.row(1000));
        refused.by(-6, "row(most)", y -> y.row(MOST));
        due("a fifth", x.row(0), -6);
        due("a fifth above", x.row(1000), -6);
        due("count(4)", x.count(4), 4);
        x.judge(0);
        due("one when there is room again", x.row(0), 1);
    }

    private void fittingAndJudge() {
        sentence(24, "FITTING (the ROW stays): ENDS (what 0; bits), how many (1).");
        BetsOnBets x = Examples.four();
        x.row(490);
        for (int time = 0; time < 2; time++) {
            due("fitting(0)", x.fitting(0), 5);
            due("fitting(1)", x.fitting(1), 2);
            due("count(4)", x.count(4), 1);
        }
        due("judge(0)", x.judge(0), -9);
        sentence(24, "-2.");
        refused.by(-2, "fitting(-1)", y -> y.fitting(-1));
        refused.by(-2, "fitting(2)", y -> y.fitting(2));
        refused.by(-2, "fitting(least)", y -> y.fitting(LEAST));
        refused.by(-2, "fitting(most)", y -> y.fitting(MOST));
        sentence(25, "JUDGED; -9 (whichever it answers, the ROW has none then).");
        int[][] byFirst = {{490, -9}, {491, 0}};
        for (int[] first : byFirst) {
            x.row(first[0]);
            due("judge(0) of " + first[0], x.judge(0), first[1]);
            due("count(4) then", x.count(4), 0);
            due("fitting(0) then", x.fitting(0), 15);
            due("judge(0) then", x.judge(0), -9);
        }
        due("no REFUSALS", x.count(11), 0);
        sentence(25, "-1 (it stays).");
        refused.by(-1, "judge(-1)", y -> y.judge(-1));
        refused.by(-1, "judge(8)", y -> y.judge(8));
        refused.by(-1, "judge(least)", y -> y.judge(LEAST));
        refused.by(-1, "judge(most)", y -> y.judge(MOST));
        x.row(520);
        x.row(0);
        due("judge(4)", x.judge(4), -1);
        due("count(4)", x.count(4), 2);
        due("judge(1)", x.judge(1), 1);
    }

    private void seeds() {
        sentence(26, "SEEDS.");
        BetsOnBets x = Check.told("h50;", "bph0h01,901;");
        due("seeds(1, 0, 0)", x.seeds(1, 0, 0), -1);
        due("seeds(4, 0, 0)", x.seeds(4, 0, 0), 6);
        due("seeds(4, 0, 1)", x.seeds(4, 0, 1), -6);
        due("seeds(30, 0, 2)", x.seeds(30, 0, 2), 0);
        sentence(26, "Refused as told: -1;");
        refused.farBy(-1, "seeds(1, 0, -1)", y -> y.seeds(1, 0, -1));
        refused.farBy(-1, "seeds(1, 0, 4)", y -> y.seeds(1, 0, 4));
        refused.farBy(-1, "seeds(0, 0, 4)", y -> y.seeds(0, 0, 4));
        refused.farBy(-1, "seeds(31, 0, 4)", y -> y.seeds(31, 0, 4));
        refused.farBy(-1, "seeds(1, 0, least)", y -> y.seeds(1, 0, LEAST));
        refused.farBy(-1, "seeds(1, 0, most)", y -> y.seeds(1, 0, MOST));
        sentence(26, "-4;");
        refused.farBy(-4, "seeds(0, 0, 0)", y -> y.seeds(0, 0, 0));
        refused.farBy(-4, "seeds(-1, 0, 0)", y -> y.seeds(-1, 0, 0));
        refused.farBy(-4, "seeds(least, 0, 0)", y -> y.seeds(LEAST, 0, 0));
        sentence(26, "-6 30.");
        refused.farBy(-6, "seeds(31, 0, 0)", y -> y.seeds(31, 0, 0));
        refused.farBy(-6, "seeds(most, 0, 0)", y -> y.seeds(MOST, 0, 0));
    }

    private void imageAndOn() {
        sentence(27, "THE IMAGE is taken: how many BETS.");
        BetsOnBets x = new BetsOnBets();
        due("image() without BETS", x.image(), 0);
        for (int bets = 1; bets <= 6; bets++) {
            Check.inn(x, Examples.LOSES + "1,001;");
            due("image() of " + bets, x.image(), bets);
        }
        sentence(28, "ON from it: how many BETS.");
        for (int bets = 0; bets <= 6; bets++) {
            BetsOnBets y = new BetsOnBets();
            for (int n = 0; n < 6; n++) {
                if (n == bets) {
                    y.image();
                }
                Check.inn(y, Examples.LOSES + "1,001;");
            }
            if (bets == 6) {
                y.image();
            }
            due("on() to " + bets, y.on(), bets);
            due("count(1)", y.count(1), bets);
            due("count(3)", y.count(3), bets);
            due("on() again", y.on(), bets);
        }
        sentence(28, "-3 there is none.");
        BetsOnBets none = Examples.four();
        String ahead = Refused.all(none);
        due("on()", none.on(), -3);
        due("count(13)", none.count(13), 1);
        check.holds("on() changes what is told", Refused.all(none).equals(ahead));
        none.image();
        due("on() from one", none.on(), 3);
        due("on() of another object", new BetsOnBets().on(), -3);
        due("count(13)", none.count(13), 1);
    }

    private void count() {
        sentence(29, "0 HAPPENINGS, 1 BETS, 2 ENDS, 3 all STAKES, 4 in the ROW, 5 letters,");
        BetsOnBets x = Refused.prepared();
        int[] want = {3, 3, 8, 37, 2, 2};
        for (int what = 0; what < 6; what++) {
            due("count(" + what + ")", x.count(what), want[what]);
        }
        BetsOnBets full = Check.told("h1;h1;h1;h1;", "bpb0b099,001;".repeat(3), "bpb0b099,001;".repeat(3));
        for (int n = 0; n < 4; n++) {
            full.row(0);
        }
        Check.letters(full, ";".repeat(80));
        int[] most = {4, 6, 16, 594, 4, 80};
        for (int what = 0; what < 6; what++) {
            due("full, count(" + what + ")", full.count(what), most[what]);
        }
        sentence(29, "11 .. 16 REFUSALS -1 .. -6.");
        BetsOnBets y = Examples.four();
        int[] times = {5, 3, 2, 4, 0, 1};
        Refused.Call[] calls = {z -> z.chance(9), z -> z.fitting(9), z -> z.on(), z -> z.row(-1), null, z -> z.row(1000)};
        for (int number = 0; number < 6; number++) {
            for (int time = 0; time < times[number]; time++) {
                due("call " + number, calls[number].on(y), -1 - number);
            }
        }
        for (int number = 0; number < 6; number++) {
            due("count(" + (11 + number) + ")", y.count(11 + number), times[number]);
        }
        sentence(29, "-9 for another what.");
        for (int what : new int[] {LEAST, -17, -11, -1, 6, 7, 8, 9, 10, 17, 18, 100, MOST}) {
            due("count(" + what + ")", y.count(what), -9);
        }
        due("no REFUSALS", y.count(12), 3);
    }

    /** Of the 512 calls for which an object is used, the last ones are answered as the first. */
    private void lastCall() {
        sentence(29, "11 .. 16 REFUSALS -1 .. -6.");
        BetsOnBets x = new BetsOnBets();
        for (int call = 1; call <= 510; call++) {
            x.letter(256);
        }
        due("call 511", x.count(16), 510);
        due("call 512", x.letter('h'), 1);
    }
}
