/** Sentences of the Terms about what is asked: from WAYS to SEEDS. */
final class OfWords {
    private static final String TERMS = "Terms";
    /** A BET that loses always and one that wins always, while there is no BET 5. */
    private static final String LOSES = "bpb5b5";
    private static final String WINS = "bab5b5";
    private final Check check;

    OfWords(Check check) {
        this.check = check;
    }

    void run() {
        ways();
        standing();
        mean();
        worstAndBest();
        firstEnd();
        sure();
        likely();
        voids();
        sparingStakes();
        sparingGreatest();
        sparingLeast();
        sparingNone();
        safeOdds();
        safeOddsNone();
        host();
        hostLeast();
        settling();
        shortOfFunds();
        rings();
        ringMarks();
        seen();
        fitting();
        judged();
        races();
        happeningByHappening();
        allTogether();
        becomes();
        withoutSign();
    }

    private void due(String call, long got, long want) {
        check.due(call, got, want);
    }

    private void ways() {
        check.sentence(TERMS, "WAYS of an END: how many; the first (bits of BETS that are WON; the least).");
        BetsOnBets x = Check.told("h50;", "bph0h01,001;beh0b11,001;bpb1b11,001;");
        due("ways(0, 0)", x.ways(0, 0), 2);
        due("ways(0, 1)", x.ways(0, 1), 0);
        due("ways(1, 0)", x.ways(1, 0), 1);
        due("ways(1, 1)", x.ways(1, 1), 7);
        BetsOnBets least = Check.told("bab2b21,001;bpb1b11,001;bab0b01,001;");
        due("of 1, 3, 4 and 6 how many", least.ways(0, 0), 4);
        due("of 1, 3, 4 and 6 the least", least.ways(0, 1), 1);
        BetsOnBets none = Check.told("bab0b01,001;");
        due("none", none.ways(0, 0), 0);
        due("the first of none", none.ways(0, 1), -9);
        BetsOnBets all = Check.told("bnb5b51,001;bnb5b51,001;bnb5b51,001;", "bnb5b51,001;bnb5b51,001;bxb0b01,001;");
        due("all but one WON", all.ways(0, 1), 31);
    }

    private void standing() {
        check.sentence(TERMS, "STANDING of a BET in an END: 0 LOST, 1 WON, 2 VOID.");
        BetsOnBets x = Check.told("h50;", "bph0h01,001;bah0h01,001;boh0b21,001;");
        int[][] want = {{0, 1, 0}, {1, 0, 2}};
        for (int end = 0; end < 2; end++) {
            for (int bet = 0; bet < 3; bet++) {
                due("standing(" + bet + ", " + end + ")", x.standing(bet, end), want[end][bet]);
            }
        }
    }

    private void mean() {
        check.sentence(TERMS, "MEAN of a PERSON: over all ENDS by CHANCES, in hundredths of a coin, cut toward 0.");
        int[] means = {500, 0, -2100, 1600};
        for (int person = 0; person < 4; person++) {
            due("mean(" + person + ")", Examples.four().mean(person), means[person]);
        }
        BetsOnBets cut = Check.told("h1;h1;", "boh0h11,001;");
        due("-99.99 cut", cut.mean(0), -99);
        due("99.99 cut", cut.mean(1), 99);
        BetsOnBets small = Check.told("h1;h1;h1;", "boh0h11,001;bob0h21,123;", LOSES + "1,032;");
        due("0.0002 cut", small.mean(2), 0);
        due("-0.0002 cut", small.mean(3), 0);
        due("one END", Check.told(LOSES + "7,001;").mean(0), -700);
        due("the greatest", Examples.six("h99").mean(0), 528660);
        due("the least", Examples.six("h99").mean(1), -528660);
        BetsOnBets sixteen = Check.told("h1;h1;h1;h99;", "boh0h199,901;boh2h399,901;boh0h399,901;");
        due("-297 and 990 times 0.0199", sixteen.mean(0), -27729);
        due("297 less 990 times 0.0199", sixteen.mean(1), 27729);
    }

    private void worstAndBest() {
        check.sentence(TERMS, "WORST, BEST: the least, the greatest PURSE of all ENDS;");
        int[][] want = {{-10, 20}, {-25, 25}, {-35, 25}, {-20, 20}};
        for (int person = 0; person < 4; person++) {
            BetsOnBets x = Examples.four();
            due("worst(" + person + ", 0)", x.worst(person, 0), want[person][0]);
            due("best(" + person + ", 0)", x.best(person, 0), want[person][1]);
        }
        BetsOnBets most = Examples.six("h50");
        due("the greatest BEST", most.best(0, 0), 5346);
        due("the least WORST", most.worst(1, 0), -5346);
        due("a WORST above 0", Check.told(WINS + "1,501;").worst(0, 0), 5);
        due("a BEST below 0", Check.told(LOSES + "1,501;").best(0, 0), -1);
        BetsOnBets last = Check.told("h1;h1;h1;h1;", "boh0h11,001;boh2h31,001;bob0b15,901;");
        due("BEST in the last END alone", last.best(0, 0), 45);
        due("the last END", last.best(0, 1), 15);
        due("WORST in the last END alone", last.worst(1, 0), -45);
        due("the last END", last.worst(1, 1), 15);
    }

    private void firstEnd() {
        check.sentence(TERMS, "the first END with it (least bits).");
        int[][] want = {{0, 1}, {1, 0}, {0, 3}, {3, 0}};
        for (int person = 0; person < 4; person++) {
            BetsOnBets x = Examples.four();
            due("worst(" + person + ", 1)", x.worst(person, 1), want[person][0]);
            due("best(" + person + ", 1)", x.best(person, 1), want[person][1]);
        }
        BetsOnBets alike = Check.told("h1;h1;h1;", LOSES + "1,001;");
        due("worst() where all are alike", alike.worst(0, 1), 0);
        due("best() where all are alike", alike.best(0, 1), 0);
        BetsOnBets two = Check.told("h1;h1;h1;", "bxh0h11,101;");
        due("best() in 1, 2, 5, 6", two.best(0, 1), 1);
        due("worst() in 1, 2, 5, 6", two.worst(1, 1), 1);
        due("worst() in 0, 3, 4, 7", two.worst(0, 1), 0);
    }

    private void sure() {
        check.sentence(TERMS, "SURE: whether no END has a PURSE below 0 and some one above.");
        BetsOnBets above = Check.told("h50;h50;", "boh0h11,101;bah0h01,001;");
        due("one END above, one at 0", Check.told("h50;", "bph0h01,010;").sure(0), 1);
        due("one END above, one below", Check.told("h50;", "bph0h01,110;").sure(0), 0);
        due("one END below, one at 0", Check.told("h50;", "bph0h01,001;").sure(0), 0);
        due("none above, none below", above.sure(2), 0);
        due("all above", Check.told(WINS + "1,101;").sure(0), 1);
        due("all below", Check.told(WINS + "1,101;").sure(1), 0);
        due("all at 0", Check.told(WINS + "1,001;").sure(0), 0);
        BetsOnBets lastEnd = Check.told("h50;h50;", "boh0h11,901;", LOSES + "1,010;");
        due("above in END 3 alone, at 0 else", lastEnd.sure(0), 1);
        due("below in END 3 alone, at 0 else", lastEnd.sure(1), 0);
        due("of one not in it", lastEnd.sure(3), 0);
        BetsOnBets set = Check.told("h50;", "bph0h03,010;bah0h09,010;", LOSES + "5,001;");
        due("-2 or 4", set.sure(0), 0);
        set.set(0, 0, 9);
        set.set(1, 0, 3);
        due("4 or -2", set.sure(0), 0);
        set.set(1, 0, 5);
        due("4 or 0", set.sure(0), 1);
        set.set(0, 0, 5);
        set.set(1, 0, 9);
        due("0 or 4", set.sure(0), 1);
    }

    private void likely() {
        check.sentence(TERMS, "LIKELY: how likely its PURSE is above 0, in hundredths, cut.");
        int[] want = {50, 50, 10, 90};
        for (int person = 0; person < 4; person++) {
            due("likely(" + person + ")", Examples.four().likely(person), want[person]);
        }
        BetsOnBets rare = Check.told("h1;h1;", "boh0h11,101;");
        due("0.01 cut", rare.likely(0), 0);
        due("99.99 cut", rare.likely(1), 99);
        due("a PURSE of 0 is not above", Check.told("h30;", "bph0h01,001;").likely(0), 0);
        due("a PURSE of 1 is", Check.told("h30;", "bph0h01,101;").likely(0), 30);
        due("always", Check.told("h30;h30;", LOSES + "1,001;").likely(1), 100);
        due("never", Check.told("h30;h30;", LOSES + "1,001;").likely(0), 0);
        due("without HAPPENINGS", Check.told(LOSES + "1,001;").likely(1), 100);
        due("four of 99", Check.told("h99;h99;h99;h99;", "boh0h11,001;boh2h31,001;bob0b11,101;").likely(0), 96);
    }

    private void voids() {
        check.sentence(TERMS, "VOIDS: BETS (bits) that are VOID in some END.");
        due("none", Examples.four().voids(), 0);
        due("without BETS", new BetsOnBets().voids(), 0);
        due("in the first END alone", Check.told("h1;h1;", "bph0h01,001;beh0h11,001;beb1b21,001;").voids(), 4);
        due("in the last END alone",
                Check.told("h1;h1;", "boh0h11,001;bob0b11,001;bph0h01,001;").voids(), 2);
        due("each in another END", Check.told("h1;", "beh0b01,001;boh0b11,001;bph0h01,001;").voids(), 3);
        due("all, in an END without WAYS", Check.told("h1;", "bxh0b01,001;bph0h01,001;bah0h01,001;").voids(), 7);
        due("all six", Check.told("bab5b51,001;bpb0b01,001;bpb0b01,001;", "bpb0b01,001;bpb0b01,001;bab0b01,001;")
                .voids(), 63);
    }

    private void sparingStakes() {
        check.sentence(TERMS, "SPARING for a PERSON: of its BETS as BETTOR and STAKES 0 .. 99");
        due("the least STAKE", Check.told(LOSES + "5,901;").sparing(0), 0);
        due("the greatest STAKE", Check.told(WINS + "5,101;").sparing(0), 99);
        due("from 98 to 99", Check.told(WINS + "98,101;").sparing(0), 99);
        due("from 1 to 0", Check.told(LOSES + "1,101;").sparing(0), 0);
        due("not of its BETS as HOLDER", Check.told(WINS + "5,101;").sparing(1), -9);
        due("not of BETS of others", Check.told(WINS + "5,101;").sparing(2), -9);
        due("HOLDER of the first, BETTOR of the second",
                Check.told(WINS + "5,101;" + LOSES + "5,110;").sparing(1), 100);
    }

    private void sparingGreatest() {
        check.sentence(TERMS, "that by which, told anew for that BET alone, its WORST is greatest, greater than now:");
        BetsOnBets x = Check.told("h50;", "bph0h010,301;bah0h04,201;");
        due("worst(0, 0)", x.worst(0, 0), -2);
        due("of 8 less a coin each and 2 for each less 10", x.sparing(0), 113);
        int[][] byStake = {{12, 14}, {13, 16}, {14, 16}, {15, 15}};
        for (int[] one : byStake) {
            x.set(1, 0, one[0]);
            due("worst(0, 0) at STAKE " + one[0], x.worst(0, 0), one[1]);
        }
        x.set(1, 0, 4);
        x.set(0, 0, 1);
        due("after set(): 8 less a coin each or 3 for each less 4", x.sparing(0), 3);
        BetsOnBets later = Check.told(LOSES + "5,001;" + LOSES + "9,001;" + LOSES + "7,001;");
        due("that of the greatest loss", later.sparing(0), 100);
        due("what it was stays", later.bet(1, 3), 9);
        due("all STAKES stay", later.count(3), 21);
        due("a second time", later.sparing(0), 100);
    }

    private void sparingLeast() {
        check.sentence(TERMS, "100 times the BET and the STAKE, of several the least;");
        due("two BETS alike", Check.told(LOSES + "5,001;" + LOSES + "5,001;").sparing(0), 0);
        due("BET 4", Check.told(LOSES + "1,010;" + LOSES + "1,010;" + LOSES + "1,010;" + LOSES + "1,010;"
                + LOSES + "1,001;").sparing(0), 400);
        due("BET 5, STAKE 99", Check.told("bxb0b01,012;".repeat(5), "bab0b09,101;").sparing(0), 599);
        due("13 and 14 alike", Check.told("h50;", "bph0h010,301;bah0h04,201;").sparing(0), 113);
        due("6 and all above alike", Check.told("h50;", "beh0b01,901;bph0h05,910;").sparing(0), 6);
        due("6 and all above alike, from above", Check.told("h50;", "beh0b07,901;bph0h05,910;").sparing(0), -9);
        due("of two BETS 5 and all above alike",
                Check.told("h50;", "beh0b01,901;beh0b11,901;bph0h05,910;").sparing(0), 5);
    }

    private void sparingNone() {
        check.sentence(TERMS, "-9.");
        due("without BETS", new BetsOnBets().sparing(0), -9);
        due("without BETS as BETTOR", Examples.four().sparing(3), -9);
        due("as good already", Check.told(WINS + "99,901;").sparing(0), -9);
        due("nothing won, nothing lost", Check.told(WINS + "5,001;").sparing(0), -9);
        due("VOID", Check.told("bpb0b05,901;").sparing(0), -9);
        due("VOID in the END with the WORST", Check.told("h50;", "beh0b01,901;bah0h01,510;").sparing(0), -9);
    }

    private void safeOdds() {
        check.sentence(TERMS, "SAFE ODDS of a BET: the greatest (0 .. 9) by which the MEAN of its HOLDER is 0 or more;");
        int[][] byChance = {{1, 9}, {9, 9}, {10, 9}, {11, 8}, {12, 7}, {20, 4}, {21, 3}, {49, 1}, {50, 1}, {51, 0}, {99, 0}};
        for (int[] one : byChance) {
            BetsOnBets x = Check.told("h" + one[0] + ";", "bph0h010,501;");
            due("at CHANCE " + one[0], x.safeOdds(0), one[1]);
            due("ODDS stay", x.bet(0, 4), 5);
        }
        due("never WON", Check.told(LOSES + "1,001;").safeOdds(0), 9);
        due("always WON", Check.told(WINS + "1,501;").safeOdds(0), 0);
        due("VOID", Check.told("bab0b01,001;").safeOdds(0), 9);
        due("with 30 from elsewhere", Check.told(WINS + "10,501;" + LOSES + "30,021;").safeOdds(0), 3);
        due("with 29 from elsewhere", Check.told(WINS + "10,501;" + LOSES + "29,021;").safeOdds(0), 2);
        due("with 30 that its BETTOR has", Check.told(WINS + "10,501;" + LOSES + "30,020;").safeOdds(0), 0);
        due("of the second BET", Check.told(LOSES + "30,021;" + WINS + "10,501;").safeOdds(1), 3);
        due("a MEAN of a hundredth below 0", Check.told("h1;", "bpb0b01,001;bah0h01,012;").safeOdds(0), -9);
        due("a MEAN of a hundredth above 0", Check.told("h1;", "bpb0b01,001;bah0h01,001;").safeOdds(0), 9);
        BetsOnBets cut = Check.told("h77;h13;", "boh0h11,001;");
        cut.set(0, 1, 9);
        due("a MEAN cut to 0", cut.mean(1), 0);
        due("is 0", cut.safeOdds(0), 9);
    }

    private void safeOddsNone() {
        check.sentence(TERMS, "0 or more; -9.");
        due("below 0 by another BET", Check.told(WINS + "10,001;" + WINS + "1,121;").safeOdds(0), -9);
        due("0 by another BET", Check.told(WINS + "10,001;" + WINS + "1,021;").safeOdds(0), 0);
        due("VOID and below 0", Check.told("bpb0b010,001;", LOSES + "1,012;").safeOdds(0), -9);
        due("without a loss", Check.told("bpb0b010,001;", LOSES + "1,021;").safeOdds(0), 9);
        due("not refused", refusalsAfterNone(), 0);
    }

    private static int refusalsAfterNone() {
        BetsOnBets x = Check.told(WINS + "10,001;" + WINS + "1,121;");
        x.safeOdds(0);
        int all = 0;
        for (int what = 11; what <= 16; what++) {
            all += x.count(what);
        }
        return all;
    }

    private void host() {
        check.sentence(TERMS, "HOST: of PEOPLE that with the greatest MEAN,");
        due("host()", Examples.four().host(), 3);
        for (int person = 0; person < 4; person++) {
            int other = (person + 1) % 4;
            due("host() of " + person, Check.told(LOSES + "5,0" + other + person + ";").host(), person);
        }
        due("by MEAN, not by BEST", Check.told("h10;", "bph0h010,801;").host(), 1);
        due("the greatest below others", Check.told(LOSES + "5,001;" + LOSES + "6,032;").host(), 2);
    }

    private void hostLeast() {
        check.sentence(TERMS, "of several the least.");
        due("all alike", new BetsOnBets().host(), 0);
        due("0 and 1", Check.told(LOSES + "5,020;" + LOSES + "5,021;").host(), 0);
        due("1 and 3", Check.told(LOSES + "5,001;" + LOSES + "5,023;").host(), 1);
        due("2 and 3", Check.told(LOSES + "5,003;" + LOSES + "5,012;").host(), 2);
        due("1, 2 and 3", Check.told(LOSES + "5,001;" + LOSES + "5,002;" + LOSES + "5,003;").host(), 1);
        due("all at 0", Check.told(LOSES + "5,010;" + LOSES + "5,001;").host(), 0);
    }

    private void settling() {
        check.sentence(TERMS, "SETTLING of an END: the fewest payments by which all PURSES are settled (any may pay any).");
        due("nothing", new BetsOnBets().settling(0), 0);
        due("a round", Check.told(LOSES + "5,001;" + LOSES + "5,012;" + LOSES + "5,020;").settling(0), 0);
        due("-5 5", Check.told(LOSES + "5,001;").settling(0), 1);
        due("-5 0 0 5 by way of others", Check.told(LOSES + "5,001;" + LOSES + "5,012;" + LOSES + "5,023;").settling(0), 1);
        due("-5 3 2", Check.told(LOSES + "3,001;" + LOSES + "2,002;").settling(0), 2);
        due("-5 -5 5 5", Check.told(LOSES + "5,002;" + LOSES + "5,013;").settling(0), 2);
        due("-5 5 -7 7", Check.told(LOSES + "5,001;" + LOSES + "7,023;").settling(0), 2);
        due("-5 -7 5 7", Check.told(LOSES + "5,002;" + LOSES + "7,013;").settling(0), 2);
        due("-5 -7 7 5", Check.told(LOSES + "5,003;" + LOSES + "7,012;").settling(0), 2);
        due("-5 -7 6 6", Check.told(LOSES + "5,002;" + LOSES + "1,012;" + LOSES + "6,013;").settling(0), 3);
        due("-9 2 3 4", Check.told(LOSES + "2,001;" + LOSES + "3,002;" + LOSES + "4,003;").settling(0), 3);
        due("-5 -7 7 5 told crosswise", Check.told(LOSES + "5,002;" + LOSES + "2,012;" + LOSES + "5,013;").settling(0), 2);
        int[] byEnd = {3, 3, 3, 2};
        for (int end = 0; end < 4; end++) {
            due("settling(" + end + ")", Examples.four().settling(end), byEnd[end]);
        }
    }

    private void shortOfFunds() {
        check.sentence(TERMS, "SHORT: PEOPLE (bits) whose PURSE in an END is below 0 by more than their FUND.");
        due("-50 of 50", Examples.lost(50).cannotPay(0), 0);
        due("-51 of 50", Examples.lost(51).cannotPay(0), 1);
        for (int person = 0; person < 4; person++) {
            int other = (person + 1) % 4;
            BetsOnBets x = Check.told(LOSES + "1,0" + person + other + ";f" + person + ",0;");
            due("-1 of 0, PERSON " + person, x.cannotPay(0), 1 << person);
            x.fund(person, 1);
            due("-1 of 1, PERSON " + person, x.cannotPay(0), 0);
        }
        BetsOnBets most = Examples.lost(98, 1);
        most.fund(0, 99);
        due("-99 of 99", most.cannotPay(0), 0);
        Check.inn(most, LOSES + "1,001;");
        due("-100 of 99", most.cannotPay(0), 1);
        due("0 of 0, 1 of 0", Check.told("f0,0;f1,0;f2,0;f3,0;", LOSES + "1,001;").cannotPay(0), 1);
        due("three at once", Check.told("f0,0;f1,0;f2,0;f3,0;", LOSES + "1,003;" + LOSES + "1,013;" + LOSES + "1,023;")
                .cannotPay(0), 7);
        BetsOnBets byEnd = Check.told("h50;f0,9;f1,9;", "bph0h010,101;");
        due("END 0", byEnd.cannotPay(0), 1);
        due("END 1", byEnd.cannotPay(1), 2);
    }

    private void rings() {
        check.sentence(TERMS, "RINGS: BETS (bits) from which one comes back to them by MARKS that are BETS");
        due("none", Examples.four().rings(), 0);
        due("without BETS", new BetsOnBets().rings(), 0);
        due("itself", Check.told("bpb0b01,001;").rings(), 1);
        due("two", Check.told("bpb1b11,001;bab0b01,001;").rings(), 3);
        due("one that leads in", Check.told("bpb1b11,001;bab1b11,001;").rings(), 2);
        due("one led out to", Check.told("beb0b11,001;bab5b51,001;").rings(), 1);
        due("to one not there", Check.told("bpb1b11,001;").rings(), 0);
        due("to one not there and back, if it were", Check.told("bpb2b21,001;bpb2b21,001;").rings(), 0);
        BetsOnBets six = Check.told("bab1b11,001;bab2b21,001;bab3b31,001;", "bab4b41,001;bab5b51,001;");
        due("five in a row", six.rings(), 0);
        Check.inn(six, "bab0b01,001;");
        due("six in a ring", six.rings(), 63);
        BetsOnBets back = Check.told("bab5b51,001;bab0b01,001;bab1b11,001;", "bab2b21,001;bab3b31,001;bab4b41,001;");
        due("six the other way round", back.rings(), 63);
        BetsOnBets two = Check.told("bpb2b21,001;bpb3b31,001;bpb0b01,001;", "bpb1b11,001;beb0b11,001;bpb4b41,001;");
        due("two rings, one that leads into both", two.rings(), 15);
        due("HAPPENINGS of the same number", Check.told("h1;h1;", "beh0h11,001;beh0h11,001;").rings(), 0);
    }

    private void ringMarks() {
        check.sentence(TERMS, "(both MARKS of o, e, x, n, the first of p, a).");
        for (char kind : "paoexn".toCharArray()) {
            boolean both = kind != 'p' && kind != 'a';
            due("first of " + kind, Check.told("h1;", "b" + kind + "b0h01,001;").rings(), 1);
            due("second of " + kind, Check.told("h1;", "b" + kind + "h0b01,001;").rings(), both ? 1 : 0);
            due("both of " + kind, Check.told("b" + kind + "b0b01,001;").rings(), 1);
            due("second of " + kind + " in a ring of two",
                    Check.told("h1;", "b" + kind + "h0b11,001;bpb0b01,001;").rings(), both ? 3 : 0);
            due("first of " + kind + " in a ring of two",
                    Check.told("h1;", "b" + kind + "b1h01,001;bpb0b01,001;").rings(), 3);
        }
    }

    private void seen() {
        check.sentence(TERMS, "SEEN: a ROW of numbers (0 .. 999; 4 at most) is told: PURSES of PEOPLE 0, 1, .., each and"
                + " 500:");
        BetsOnBets x = Examples.four();
        int[] purses = {-10, 25, -35, 20};
        for (int person = 0; person < 4; person++) {
            due("row()", x.row(500 + purses[person]), person + 1);
            due("fitting(0)", x.fitting(0), 5);
        }
        due("a fifth", x.row(500), -6);
        due("judge(0)", x.judge(0), -9);
        due("row(-1)", x.row(-1), -4);
        due("row(0)", x.row(0), 1);
        due("row(999)", x.row(999), 2);
        due("row(1000)", x.row(1000), -6);
        BetsOnBets least = Examples.lost(99, 99, 99, 99, 99, 5);
        due("purse(0, 0)", least.purse(0, 0), -500);
        least.row(0);
        due("-500 told as 0", least.fitting(1), 1);
        BetsOnBets most = Check.told("bxb0b099,010;".repeat(3), "bxb0b099,010;bxb0b099,010;bxb0b04,010;");
        due("purse(0, 0)", most.purse(0, 0), 499);
        most.row(999);
        due("499 told as 999", most.fitting(1), 1);
        BetsOnBets more = Examples.lost(99, 99, 99, 99, 99, 6);
        more.row(0);
        due("-501 not told", more.fitting(1), 0);
        BetsOnBets far = Examples.six("h50");
        far.row(999);
        due("5346 not told", far.fitting(0), 0);
    }

    private void fitting() {
        check.sentence(TERMS, "FITTING: ENDS (bits) in which all told ones are just so; how many;");
        BetsOnBets x = Examples.four();
        due("nothing told", x.fitting(0), 15);
        due("nothing told, how many", x.fitting(1), 4);
        int[][] rows = {{520, 10, 2}, {475, 10, 2}, {485, 2, 1}, {520, 2, 1}};
        for (int[] row : rows) {
            x.row(row[0]);
            due("ENDS with " + row[0], x.fitting(0), row[1]);
            due("how many with " + row[0], x.fitting(1), row[2]);
        }
        x.judge(0);
        x.row(519);
        due("one less", x.fitting(0), 0);
        due("one less, how many", x.fitting(1), 0);
        x.judge(0);
        x.row(521);
        due("one more", x.fitting(0), 0);
        BetsOnBets all = Check.told("h1;h1;h1;h1;");
        due("all 16", all.fitting(0), 65535);
        due("all 16, how many", all.fitting(1), 16);
        for (int person = 0; person < 4; person++) {
            all.row(500);
        }
        due("all 16 with four told", all.fitting(0), 65535);
        BetsOnBets last = Check.told("h1;h1;h1;h1;", "boh0h11,001;boh2h31,001;bob0b15,901;");
        last.row(545);
        due("the last END alone", last.fitting(0), 32768);
        BetsOnBets lastPerson = Examples.four();
        for (int v : new int[] {520, 475, 525, 481}) {
            lastPerson.row(v);
        }
        due("the last of four not so", lastPerson.fitting(0), 0);
    }

    private void judged() {
        check.sentence(TERMS, "JUDGED for an END: the first that is not so; -9.");
        int[] right = {490, 525, 465, 520};
        for (int wrong = 0; wrong <= 4; wrong++) {
            for (int by = -1; by <= 1; by += 2) {
                BetsOnBets x = Examples.four();
                for (int person = 0; person < 4; person++) {
                    x.row(person >= wrong ? right[person] + by : right[person]);
                }
                due("judge(0), not so from " + wrong, x.judge(0), wrong == 4 ? -9 : wrong);
            }
        }
        BetsOnBets few = Examples.four();
        few.row(490);
        few.row(525);
        due("judge() of two", few.judge(0), -9);
        due("judge() of none", few.judge(1), -9);
        few.row(490);
        due("judge() for another END", few.judge(1), 0);
    }

    private void races() {
        check.sentence(TERMS, "SEEDS with a seed z: n RACES (1 .. 30):");
        BetsOnBets x = Check.told("h50;", LOSES + "3,901;");
        due("seeds(1, 0, 1)", x.seeds(1, 0, 1), 3);
        due("seeds(30, 0, 1)", x.seeds(30, 0, 1), 90);
        due("seeds(0, 0, 1)", x.seeds(0, 0, 1), 1000000004);
        due("seeds(31, 0, 1)", x.seeds(31, 0, 1), 1000000006);
        for (int n = 1; n <= 30; n++) {
            due("seeds(" + n + ", 7, 0)", x.seeds(n, 7, 0), -3 * n);
        }
        for (int z : new int[] {0, 1, -1, Integer.MIN_VALUE, Integer.MAX_VALUE}) {
            due("any seed: " + z, x.seeds(2, z, 0), -6);
        }
    }

    /** DRAWS with seed 0: 63, 77, 86, 39, 49, 90, 64, 7. */
    private void happeningByHappening() {
        check.sentence(TERMS, "HAPPENING by HAPPENING a DRAW below 100 is less than CHANCE: it is so:");
        int[] draws = {63, 77, 86, 39};
        for (int happening = 0; happening < 4; happening++) {
            for (int more = 0; more < 2; more++) {
                BetsOnBets x = Check.told("h1;".repeat(happening) + "h" + (draws[happening] + more) + ";",
                        "bph" + happening + "h01,901;");
                due("HAPPENING " + happening + " of " + (draws[happening] + more), x.seeds(1, 0, 0), more == 1 ? 9 : -1);
            }
        }
        BetsOnBets two = Check.told("h64;h77;", "bph0h01,901;bph1h01,923;");
        due("the first RACE, HAPPENING 0", two.seeds(1, 0, 0), 9);
        due("the first RACE, HAPPENING 1", two.seeds(1, 0, 2), -1);
        due("a second RACE goes on from there: 86", two.seeds(2, 0, 0), 8);
        due("a second RACE goes on from there: 39", two.seeds(2, 0, 2), 8);
        due("four RACES: 49 and 64", two.seeds(4, 0, 0), 16);
        due("four RACES: 90 and 7", two.seeds(4, 0, 2), 16);
    }

    private void allTogether() {
        check.sentence(TERMS, "a PERSON's PURSES of all together.");
        BetsOnBets x = Check.told("h99;h99;h99;", "bph0h01,901;bph1h12,923;", LOSES + "5,012;");
        due("seeds(3, 0, 0)", x.seeds(3, 0, 0), 27);
        due("seeds(3, 0, 1)", x.seeds(3, 0, 1), 3 * (-9 - 5));
        due("seeds(3, 0, 2)", x.seeds(3, 0, 2), 3 * (18 + 5));
        due("seeds(3, 0, 3)", x.seeds(3, 0, 3), 3 * -18);
        due("the greatest", Examples.six("h99").seeds(30, 0, 0), 30 * 5346);
        due("the least", Examples.six("h99").seeds(30, 0, 1), -30 * 5346);
        due("none so", Examples.six("h1").seeds(30, 1, 0), -30 * 594);
        due("VOID", Check.told("h50;", "bpb0b09,901;").seeds(30, 0, 0), 0);
    }

    private void becomes() {
        check.sentence(TERMS, "A DRAW below m: z becomes z times 1664525 and 1013904223 (an int);");
        int[][] draws = {{0, 63}, {1, 65}, {-1, 61}, {Integer.MAX_VALUE, 61}, {Integer.MIN_VALUE, 63}, {12345, 0},
            {-12345, 26}};
        for (int[] draw : draws) {
            check.holds("a seed of " + draw[0] + " draws less than " + draw[1],
                    draw[1] == 0 || !Examples.comes(draw[1], draw[0]));
            check.holds("a seed of " + draw[0] + " draws more than " + draw[1], Examples.comes(draw[1] + 1, draw[0]));
        }
        BetsOnBets x = Check.told("h50;", "bph0h01,901;");
        due("seeds(8, 0, 0): 63 77 86 39 49 90 64 7", x.seeds(8, 0, 0), 3 * 9 - 5);
        due("seeds(8, 1, 0): 65 33 69 70 81 89 57 87", x.seeds(8, 1, 0), 9 - 7);
        due("seeds(8, -1, 0): 61 20 96 7 8 99 70 27", x.seeds(8, -1, 0), 4 * 9 - 4);
        due("seeds(8, 12345, 0): 0 26 34 14 53 93 43 59", x.seeds(8, 12345, 0), 5 * 9 - 3);
        due("a seed is not kept", x.seeds(8, 0, 0), 22);
    }

    /** Seeds whose z becomes just what is told first. */
    private void withoutSign() {
        check.sentence(TERMS, "(z without its sign's bit by 256, cut) modulo m.");
        int[][] seeds = {{0, 634785765, 0}, {255, 122584096, 0}, {256, 103732453, 1}, {Integer.MAX_VALUE, -1493846240, 7},
            {Integer.MIN_VALUE, -1512697883, 0}, {-1, 653637408, 7}, {99 * 256, -399884571, 99},
            {99 * 256 + 255, -912086240, 99}, {100 * 256, -930937883, 0}, {-256, 1165839077, 7}, {-257, 1184690720, 6},
            {Integer.MIN_VALUE + 255, -2024899552, 0}, {Integer.MIN_VALUE + 256, -2043751195, 1},
            {Integer.MIN_VALUE + 99 * 256, 1747599077, 99}};
        for (int[] seed : seeds) {
            due("what " + seed[1] + " becomes", seed[1] * 1664525 + 1013904223, seed[0]);
            check.holds("z of " + seed[0] + " draws less than " + seed[2],
                    seed[2] == 0 || !Examples.comes(seed[2], seed[1]));
            check.holds("z of " + seed[0] + " draws more than " + seed[2],
                    seed[2] == 99 || Examples.comes(seed[2] + 1, seed[1]));
        }
    }
}
