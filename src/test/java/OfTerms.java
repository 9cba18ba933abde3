/** Sentences of the Terms about HAPPENINGS, PEOPLE, BETS and MARKS. */
final class OfTerms {
    private static final String TERMS = "Terms";
    private final Check check;

    OfTerms(Check check) {
        this.check = check;
    }

    void run() {
        happenings();
        chances();
        ends();
        people();
        funds();
        bets();
        stakes();
        odds();
        bettorAndHolder();
        marks();
        betsThatAreNotThere();
    }

    private void due(String call, long got, long want) {
        check.due(call, got, want);
    }

    private void happenings() {
        check.sentence(TERMS, "HAPPENINGS 0 .. 3 as they come (4 at most)");
        BetsOnBets x = Check.told("h11;", "h22;h33;", "h44;");
        for (int happening = 0; happening < 4; happening++) {
            due("chance(" + happening + ")", x.chance(happening), 11 * (happening + 1));
        }
        due("a fifth", Check.inn(x, "h55;"), -2000);
        due("a fifth behind a FUND", Check.inn(x, "f0,1;h55;"), -2005);
        due("count(0)", x.count(0), 4);
        due("chance(4)", x.chance(4), -1);
        due("chance(3)", x.chance(3), 44);
        due("four at once", Check.inn(new BetsOnBets(), "h1;h2;h3;h4;"), 4);
        due("five at once", Check.inn(new BetsOnBets(), "h1;h2;h3;h4;h5;"), -2012);
        due("three behind two", Check.inn(Check.told("h1;h2;"), "h3;h4;h5;"), -2006);
    }

    private void chances() {
        check.sentence(TERMS, "each with a CHANCE (1 .. 99 of 100) that it is so");
        due("CHANCE 0", Check.inn(new BetsOnBets(), "h0;"), -2000);
        due("CHANCE 00", Check.inn(new BetsOnBets(), "h00;"), -2000);
        due("CHANCE 100", Check.inn(new BetsOnBets(), "h100;"), -1003);
        due("CHANCE 1", Check.told("h1;").chance(0), 1);
        due("CHANCE 01", Check.told("h01;").chance(0), 1);
        due("CHANCE 99", Check.told("h99;").chance(0), 99);
        due("1 of 100 for 9, 99 against", Check.told("h1;", "bph0h01,901;").mean(0), -90);
        due("99 of 100 for 9, 1 against", Check.told("h99;", "bph0h01,901;").mean(0), 890);
        due("likely by 1 of 100", Check.told("h1;", "bph0h01,901;").likely(0), 1);
        due("likely by 99 of 100", Check.told("h99;", "bph0h01,901;").likely(0), 99);
    }

    private void ends() {
        check.sentence(TERMS, "an END: which of them are so (bits).");
        BetsOnBets x = Check.told("h5;h5;h5;h5;", "bph0h01,001;bph1h11,001;bph2h21,001;bph3h31,001;");
        for (int end = 0; end < 16; end++) {
            for (int happening = 0; happening < 4; happening++) {
                due("standing(" + happening + ", " + end + ")", x.standing(happening, end), end >> happening & 1);
            }
        }
        due("standing(0, 16)", x.standing(0, 16), -1);
        for (int happenings = 0; happenings <= 4; happenings++) {
            BetsOnBets some = new BetsOnBets();
            for (int n = 0; n < happenings; n++) {
                Check.inn(some, "h50;");
            }
            int ends = new int[] {1, 2, 4, 8, 16}[happenings];
            due("ENDS of " + happenings, some.count(2), ends);
            due("ways() of the last END of " + happenings, some.ways(ends - 1, 0), 1);
            due("ways() of an END too many of " + happenings, some.ways(ends, 0), -1);
        }
    }

    private void people() {
        check.sentence(TERMS, "PEOPLE 0 .. 3");
        BetsOnBets x = Examples.four();
        int[] purses = {-10, 25, -35, 20};
        for (int person = 0; person < 4; person++) {
            due("purse(" + person + ", 0)", x.purse(person, 0), purses[person]);
        }
        due("purse(4, 0)", x.purse(4, 0), 1000000001);
        due("purse(-1, 0)", x.purse(-1, 0), 1000000001);
        due("BETTOR 3, HOLDER 0", Check.inn(x, "bph0h01,030;"), 1);
        due("BETTOR 4", Check.inn(x, "bph0h01,040;"), -2000);
        due("HOLDER 4", Check.inn(x, "bph0h01,004;"), -2000);
        due("FUND of 3", Check.inn(x, "f3,1;"), 1);
        due("FUND of 4", Check.inn(x, "f4,1;"), -2000);
    }

    private void funds() {
        check.sentence(TERMS, "each with a FUND (0 .. 99: 50 at first).");
        for (int person = 0; person < 4; person++) {
            BetsOnBets x = new BetsOnBets();
            due("first fund(" + person + ", 0)", x.fund(person, 0), 50);
            due("fund(" + person + ", 99)", x.fund(person, 99), 0);
            due("fund(" + person + ", 100)", x.fund(person, 100), -6);
            due("fund(" + person + ", -1)", x.fund(person, -1), -4);
            due("fund(" + person + ", 98)", x.fund(person, 98), 99);
            due("told 0", Check.inn(x, "f" + person + ",0;"), 1);
            due("fund() behind 0", x.fund(person, 5), 0);
            due("told 99", Check.inn(x, "f" + person + ",99;"), 1);
            due("fund() behind 99", x.fund(person, 5), 99);
            due("told 100", Check.inn(x, "f" + person + ",100;"), -1005);
            due("fund() behind 100", x.fund(person, 5), 5);
        }
        due("just 50 at first", Examples.lost(50).cannotPay(0), 0);
        due("no more than 50 at first", Examples.lost(51).cannotPay(0), 1);
    }

    private void bets() {
        check.sentence(TERMS, "BETS 0 .. 5 as they come (6 at most): KIND, two MARKS,");
        BetsOnBets x = Check.told("h1;h1;", "bph0h11,001;bah1h02,112;", "bob0b53,223;", "beh0b44,330;bxb3h15,402;bnh1h16,513;");
        int[][] want = {{0, 0, 1, 1, 0, 0, 1}, {1, 1, 0, 2, 1, 1, 2}, {2, 10, 15, 3, 2, 2, 3}, {3, 0, 14, 4, 3, 3, 0},
            {4, 13, 1, 5, 4, 0, 2}, {5, 1, 1, 6, 5, 1, 3}};
        for (int bet = 0; bet < 6; bet++) {
            for (int what = 0; what < 7; what++) {
                due("bet(" + bet + ", " + what + ")", x.bet(bet, what), want[bet][what]);
            }
        }
        due("a seventh", Check.inn(x, "bph0h01,001;"), -2000);
        due("a seventh behind a FUND", Check.inn(x, "f0,10;bph0h01,001;"), -2006);
        due("count(1)", x.count(1), 6);
        due("bet(6, 0)", x.bet(6, 0), -1);
        due("bet(5, 3)", x.bet(5, 3), 6);
        String lost = Examples.LOSES + "1,001;";
        due("six at once", Check.inn(new BetsOnBets(), lost.repeat(6)), 6);
        due("two behind five", Check.inn(Check.told(lost.repeat(5)), lost.repeat(2)), -2012);
    }

    private void stakes() {
        check.sentence(TERMS, "STAKE (1 .. 99)");
        due("STAKE 0", Check.inn(new BetsOnBets(), "bpb0b00,001;"), -2000);
        due("STAKE 00", Check.inn(new BetsOnBets(), "bpb0b000,001;"), -2000);
        due("STAKE 100", Check.inn(new BetsOnBets(), "bpb0b0100,001;"), -1008);
        due("STAKE 1", Check.told("bpb0b01,001;").bet(0, 3), 1);
        due("STAKE 01", Check.told("bpb0b001,001;").bet(0, 3), 1);
        due("STAKE 10", Check.told("bpb0b010,001;").bet(0, 3), 10);
        due("STAKE 99", Check.told("bpb0b099,001;").bet(0, 3), 99);
    }

    private void odds() {
        check.sentence(TERMS, "ODDS (0 .. 9)");
        for (int odds = 0; odds <= 9; odds++) {
            BetsOnBets x = Check.told("bab5b57," + odds + "01;");
            due("ODDS " + odds, x.bet(0, 4), odds);
            due("PURSE by ODDS " + odds, x.purse(0, 0), 7 * odds);
        }
        due("ODDS 10", Check.inn(new BetsOnBets(), "bpb0b07,1001;"), -1011);
    }

    private void bettorAndHolder() {
        check.sentence(TERMS, "BETTOR, HOLDER (unlike PEOPLE).");
        for (int bettor = 0; bettor < 10; bettor++) {
            for (int holder = 0; holder < 10; holder++) {
                boolean isRight = bettor < 4 && holder < 4 && bettor != holder;
                BetsOnBets x = new BetsOnBets();
                String text = "bpb0b01,0" + bettor + holder + ";";
                due(text, Check.inn(x, text), isRight ? 1 : -2000);
                due("BETTOR of " + text, x.bet(0, 5), isRight ? bettor : -1);
                due("HOLDER of " + text, x.bet(0, 6), isRight ? holder : -1);
            }
        }
    }

    private void marks() {
        check.sentence(TERMS, "A MARK is a HAPPENING or a BET (any number 0 .. 5;");
        for (int number = 0; number < 10; number++) {
            BetsOnBets x = Check.told("h1;h1;h1;h1;");
            due("first MARK h" + number, Check.inn(x, "boh" + number + "h01,001;"), number < 4 ? 1 : -2000);
            due("bet(0, 1)", x.bet(0, 1), number < 4 ? number : -1);
            x = Check.told("h1;h1;h1;h1;");
            due("second MARK h" + number, Check.inn(x, "boh0h" + number + "1,001;"), number < 4 ? 1 : -2000);
            due("bet(0, 2)", x.bet(0, 2), number < 4 ? number : -1);
            x = new BetsOnBets();
            due("first MARK b" + number, Check.inn(x, "bob" + number + "b01,001;"), number < 6 ? 1 : -2000);
            due("bet(0, 1)", x.bet(0, 1), number < 6 ? number + 10 : -1);
            x = new BetsOnBets();
            due("second MARK b" + number, Check.inn(x, "bob0b" + number + "1,001;"), number < 6 ? 1 : -2000);
            due("bet(0, 2)", x.bet(0, 2), number < 6 ? number + 10 : -1);
        }
    }

    private void betsThatAreNotThere() {
        check.sentence(TERMS, "a BET that is not there is not so).");
        int[] won = {0, 1, 0, 0, 0, 1};
        for (int kind = 0; kind < 6; kind++) {
            for (int number = 1; number < 6; number++) {
                BetsOnBets x = Check.told("b" + "paoexn".charAt(kind) + "b" + number + "b" + number + "1,001;");
                due("ways() of KIND " + kind + " on " + number, x.ways(0, 0), 1);
                due("standing() of KIND " + kind + " on " + number, x.standing(0, 0), won[kind]);
            }
        }
        BetsOnBets x = Check.told("bpb1b11,001;");
        due("on one not there", x.standing(0, 0), 0);
        Check.inn(x, "bab5b51,001;");
        due("on one that is WON", x.standing(0, 0), 1);
        BetsOnBets back = Check.told("bpb1b11,001;");
        back.image();
        Check.inn(back, "bab5b51,001;");
        back.on();
        due("on one no more there", back.standing(0, 0), 0);
    }
}
