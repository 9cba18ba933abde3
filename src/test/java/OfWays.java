/** Sentences of the Terms about KINDS, WAYS and what is paid. */
final class OfWays {
    private static final String TERMS = "Terms";
    private final Check check;

    OfWays(Check check) {
        this.check = check;
    }

    void run() {
        marksOfBothSorts();
        kind("p PLAIN under BET: the first is so.", 'p', 0b1010);
        kind("a AGAINST under PLAIN: the first is not so.", 'a', 0b0101);
        kind("o BOTH under PLAIN: the first and the second.", 'o', 0b1000);
        kind("e EITHER under BET: one of them at least.", 'e', 0b1110);
        kind("x ONE under EITHER: just one.", 'x', 0b0110);
        kind("n NEITHER under EITHER: none.", 'n', 0b0001);
        way();
        wonInAll();
        lostInAll();
        voidElse();
        wonPays();
        lostPays();
        purse();
    }

    private void due(String call, long got, long want) {
        check.due(call, got, want);
    }

    private void dueWays(String text, int many, int first) {
        BetsOnBets x = Check.told(text);
        due("ways(0, 0) of " + text, x.ways(0, 0), many);
        due("ways(0, 1) of " + text, x.ways(0, 1), first);
    }

    private void marksOfBothSorts() {
        check.sentence(TERMS, "KINDS, when one is WON, by its MARKS (a HAPPENING is so in the END; a BET, if it is WON):");
        BetsOnBets x = Check.told("h50;h50;", "bah0h01,001;bab0h11,001;bxb0h11,001;beh1b01,001;", "bob0b21,001;");
        int[] ways = {0b11101, 0b00010, 0b01001, 0b01110};
        for (int end = 0; end < 4; end++) {
            due("ways(" + end + ", 0)", x.ways(end, 0), 1);
            due("ways(" + end + ", 1)", x.ways(end, 1), ways[end]);
        }
    }

    /** WON or not by the first MARK (bit 0 of the END) and the second (bit 1): both sorts of MARKS, both ways round. */
    private void kind(String words, char kind, int won) {
        check.sentence(TERMS, words);
        for (String first : new String[] {"h0", "b0"}) {
            for (String second : new String[] {"h1", "b1"}) {
                BetsOnBets x = Check.told("h50;h50;", "bph0h01,001;bph1h11,001;", "b" + kind + first + second + "1,001;");
                for (int end = 0; end < 4; end++) {
                    due(kind + first + second + " in " + end, x.standing(2, end), won >> end & 1);
                    due("ways(" + end + ", 0)", x.ways(end, 0), 1);
                    due("ways(" + end + ", 1)", x.ways(end, 1), end | (won >> end & 1) << 2);
                }
            }
        }
        BetsOnBets twice = Check.told("h50;", "b" + kind + "h0h01,001;");
        due(kind + " of the same in 0", twice.standing(0, 0), won & 1);
        due(kind + " of the same in 1", twice.standing(0, 1), won >> 3 & 1);
    }

    private void way() {
        check.sentence(TERMS, "A WAY for an END: of each BET that it is WON or LOST, all right by their KINDS.");
        dueWays("f0,1;", 1, 0);
        dueWays("bpb0b01,001;", 2, 0);
        dueWays("bab0b01,001;", 0, -9);
        dueWays("bob0b01,001;", 2, 0);
        dueWays("beb0b01,001;", 2, 0);
        dueWays("bxb0b01,001;", 1, 0);
        dueWays("bnb0b01,001;", 0, -9);
        dueWays("bpb1b11,001;bpb0b01,001;", 2, 0);
        dueWays("bab1b11,001;bab0b01,001;", 2, 1);
        dueWays("bab1b11,001;bpb0b01,001;", 0, -9);
        dueWays("bab1b11,001;bab2b21,001;bab0b01,001;", 0, -9);
        dueWays("bab1b11,001;bab2b21,001;bpb0b01,001;", 2, 2);
        dueWays("bnb1b21,001;bnb0b21,001;bnb0b11,001;", 3, 1);
        dueWays("beb1b21,001;beb0b21,001;beb0b11,001;", 2, 0);
        dueWays("bxb1b21,001;bxb0b21,001;bxb0b11,001;", 4, 0);
        dueWays("bpb1b11,001;bxb2b01,001;bpb2b21,001;", 2, 0);
        dueWays("bab1b11,001;bab0b01,001;bnb0b01,001;bnb2b21,001;", 2, 6);
        dueWays("bab1b11,001;bab0b01,001;bnb0b01,001;bnb3b31,001;", 0, -9);
        due("ways of six on themselves", Check.told("bpb0b01,001;bpb1b11,001;bpb2b21,001;",
                "bpb3b31,001;bpb4b41,001;bpb5b51,001;").ways(0, 0), 64);
        BetsOnBets last = Check.told("bab5b51,001;bpb0b01,001;bpb0b01,001;", "bpb0b01,001;bpb0b01,001;bab0b01,001;");
        due("ways of five and one against", last.ways(0, 0), 2);
        due("the first of five and one against", last.ways(0, 1), 31);
        BetsOnBets byEnd = Check.told("h50;h50;", "bxh0b01,001;bpb1b11,001;boh1b21,001;");
        int[] many = {4, 0, 8, 0};
        for (int end = 0; end < 4; end++) {
            due("ways(" + end + ", 0)", byEnd.ways(end, 0), many[end]);
        }
    }

    /** BET 0 is free, BET 1 its opposite; one of them is WON in each WAY, and both in none. */
    private static BetsOnBets freeOne(String... others) {
        BetsOnBets x = Check.told("bpb0b05,301;bab0b05,301;");
        for (String other : others) {
            Check.inn(x, other);
        }
        return x;
    }

    private void wonInAll() {
        check.sentence(TERMS, "A BET is WON in an END, if it is WON in all WAYS,");
        BetsOnBets x = freeOne("beb0b15,323;", "bpb2b25,323;", "bpb0b05,323;");
        due("ways(0, 0)", x.ways(0, 0), 2);
        due("standing(2, 0)", x.standing(2, 0), 1);
        due("standing(3, 0)", x.standing(3, 0), 1);
        due("WON in one of two", x.standing(4, 0), 2);
        due("WON in the only one", Check.told("h1;", "bah0h01,001;").standing(0, 0), 1);
    }

    private void lostInAll() {
        check.sentence(TERMS, "LOST, if in none;");
        BetsOnBets x = freeOne("bob0b15,323;", "bpb2b25,323;", "bpb1b15,323;");
        due("ways(0, 0)", x.ways(0, 0), 2);
        due("standing(2, 0)", x.standing(2, 0), 0);
        due("standing(3, 0)", x.standing(3, 0), 0);
        due("LOST in one of two", x.standing(4, 0), 2);
        due("LOST in the only one", Check.told("h1;", "bph0h01,001;").standing(0, 0), 0);
    }

    private void voidElse() {
        check.sentence(TERMS, "else, also if there are no WAYS, it is VOID.");
        BetsOnBets two = freeOne();
        due("WON in one of two", two.standing(0, 0), 2);
        due("LOST in one of two", two.standing(1, 0), 2);
        BetsOnBets none = Check.told("h50;", "bab0b01,001;bph0h01,001;bah0h01,001;");
        for (int end = 0; end < 2; end++) {
            for (int bet = 0; bet < 3; bet++) {
                due("without WAYS standing(" + bet + ", " + end + ")", none.standing(bet, end), 2);
            }
        }
        BetsOnBets oneEnd = Check.told("h50;", "bxh0b01,001;bph0h01,001;");
        due("with WAYS standing(1, 0)", oneEnd.standing(1, 0), 0);
        due("with two WAYS standing(0, 0)", oneEnd.standing(0, 0), 2);
        due("without WAYS standing(0, 1)", oneEnd.standing(0, 1), 2);
        due("without WAYS standing(1, 1)", oneEnd.standing(1, 1), 2);
        for (int person = 0; person < 4; person++) {
            due("VOID with two WAYS, purse(" + person + ", 0)", two.purse(person, 0), 0);
            due("VOID without WAYS, purse(" + person + ", 1)", oneEnd.purse(person, 1), 0);
        }
        due("a PURSE with a WAY", oneEnd.purse(0, 0), -1);
    }

    private void wonPays() {
        check.sentence(TERMS, "WON: its HOLDER pays STAKE times ODDS to its BETTOR;");
        BetsOnBets x = Check.told("bab5b57,312;");
        due("purse(1, 0)", x.purse(1, 0), 21);
        due("purse(2, 0)", x.purse(2, 0), -21);
        due("purse(0, 0)", x.purse(0, 0), 0);
        due("purse(3, 0)", x.purse(3, 0), 0);
        due("at ODDS 0", Check.told("bab5b57,012;").purse(1, 0), 0);
        due("at ODDS 1", Check.told("bab5b57,112;").purse(1, 0), 7);
        due("99 at ODDS 9", Check.told("bab5b599,912;").purse(2, 0), -891);
    }

    private void lostPays() {
        check.sentence(TERMS, "LOST: its BETTOR pays STAKE to its HOLDER.");
        for (int odds = 0; odds <= 9; odds += 3) {
            BetsOnBets x = Check.told("bpb5b57," + odds + "30;");
            due("purse(3, 0)", x.purse(3, 0), -7);
            due("purse(0, 0)", x.purse(0, 0), 7);
            due("purse(1, 0)", x.purse(1, 0), 0);
            due("purse(2, 0)", x.purse(2, 0), 0);
        }
        due("99", Check.told("bpb5b599,912;").purse(2, 0), 99);
    }

    private void purse() {
        check.sentence(TERMS, "PURSE of a PERSON in an END: what is paid to it less what it pays.");
        int[][] want = {{-10, 25, -35, 20}, {20, -25, -15, 20}, {-10, 25, -35, 20}, {20, -25, 25, -20}};
        BetsOnBets x = Examples.four();
        for (int end = 0; end < 4; end++) {
            for (int person = 0; person < 4; person++) {
                due("purse(" + person + ", " + end + ")", x.purse(person, end), want[end][person]);
            }
        }
        BetsOnBets most = Examples.six("h50");
        due("the greatest", most.purse(0, 1), 5346);
        due("the least", most.purse(1, 1), -5346);
        due("six LOST", most.purse(0, 0), -594);
        due("six LOST, the HOLDER", most.purse(1, 0), 594);
        BetsOnBets both = Check.told("bab5b57,301;bpb5b52,310;bab5b51,920;");
        due("paid and paying", both.purse(0, 0), 21 + 2 - 9);
        due("paying and paying", both.purse(1, 0), -21 - 2);
        due("paid", both.purse(2, 0), 9);
    }
}
