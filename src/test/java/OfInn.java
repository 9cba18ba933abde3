/** Sentences of the Terms about the INN and its FAULTS. */
final class OfInn {
    private static final String TERMS = "Terms";
    private static final String DIGITS = "0123456789";
    private static final String AHEAD = "h1;f0,1;";
    /** An INN of 75 letters, so that a STATEMENT of 5 more is the last for which there is room. */
    private static final String ALMOST_FULL = "f0,1;".repeat(15);
    private final Check check;

    OfInn(Check check) {
        this.check = check;
    }

    void run() {
        eighty();
        semicolons();
        happening();
        bet();
        fund();
        numbersBeginWithNothing();
        atLeastOne();
        firstLetter();
        theEnd();
        firstKindGoesAhead();
        firstStatement();
        outOfRange();
        happeningNotThere();
        betAboveFive();
        noRoom();
        allOfItComes();
        orNothing();
    }

    private void due(String call, long got, long want) {
        check.due(call, got, want);
    }

    private void dueInn(String text, int answer) {
        due(text.isEmpty() ? "nothing" : text, Check.inn(new BetsOnBets(), text), answer);
    }

    private void eighty() {
        check.sentence(TERMS, "AN INN is told in letters, one by one (80 at most):");
        BetsOnBets x = new BetsOnBets();
        String full = ALMOST_FULL + "f1,7;";
        for (int i = 0; i < 80; i++) {
            due("letter " + i, x.letter(full.charAt(i)), i + 1);
        }
        due("letter 80", x.letter('f'), -6);
        due("inn()", x.inn(), 16);
        due("fund(1, 0)", x.fund(1, 0), 7);
        dueInn("f0,1;".repeat(14) + "f0,12;h1;", 16);
        due("the letter too many is not there", Check.inn(new BetsOnBets(), ALMOST_FULL + "f0,12" + ";"), -1080);
    }

    private void semicolons() {
        check.sentence(TERMS, "STATEMENTS, each with \";\" behind:");
        dueInn("h1;", 1);
        dueInn("h1;h2;", 2);
        dueInn("h1h2;", -1002);
        dueInn("h1;h2", -1005);
        dueInn("h1;;", -1003);
        dueInn(";h1;", -1000);
        dueInn("h1,h2;", -1002);
        dueInn("f0,1f1,1;", -1004);
        dueInn("bpb0b01,001bpb0b01,001;", -1011);
    }

    private void happening() {
        check.sentence(TERMS, "\"h\" CHANCE (1 or 2 digits): a HAPPENING more;");
        BetsOnBets x = Check.told("h7;", "h42;");
        due("count(0)", x.count(0), 2);
        due("chance(0)", x.chance(0), 7);
        due("chance(1)", x.chance(1), 42);
        dueInn("h;", -1001);
        dueInn("h123;", -1003);
        dueInn("hh1;", -1001);
        dueInn("h 1;", -1001);
        dueInn("h-1;", -1001);
    }

    private void bet() {
        check.sentence(TERMS, "\"b\" a letter of a KIND, two MARKS (each \"h\" or \"b\" and a digit), STAKE (1 or 2 digits)"
                + " \",\" ODDS, BETTOR, HOLDER (a digit each): a BET more;");
        BetsOnBets x = Check.told("h1;", "bph0b49,823;");
        int[] want = {0, 0, 14, 9, 8, 2, 3};
        for (int what = 0; what < 7; what++) {
            due("bet(0, " + what + ")", x.bet(0, what), want[what]);
        }
        due("count(1)", x.count(1), 1);
        dueInn("bb0b01,001;", -1001);
        dueInn("bpb01,001;", -1004);
        dueInn("bpb0b0,001;", -1006);
        dueInn("bpb0b0123,001;", -1008);
        dueInn("bpb0b01001;", -1008);
        dueInn("bpb0b1001;", -1008);
        dueInn("bpb0b01,01;", -1010);
        dueInn("bpb0b01,0012;", -1011);
        dueInn("bpbb01,001;", -1003);
        dueInn("bp0b01,001;", -1002);
        dueInn("bpb00b1,001;", -1004);
        dueInn("bpf0b01,001;", -1002);
    }

    private void fund() {
        check.sentence(TERMS, "\"f\" a PERSON (a digit) \",\" FUND (1 or 2 digits).");
        BetsOnBets x = Check.told("f2,9;", "f3,87;", "f2,0;");
        due("fund(2, 1)", x.fund(2, 1), 0);
        due("fund(3, 1)", x.fund(3, 1), 87);
        dueInn("f,1;", -1001);
        dueInn("f00,1;", -1002);
        dueInn("f01;", -1002);
        dueInn("f0,;", -1003);
        dueInn("f0,123;", -1005);
        dueInn("f0;1;", -1002);
    }

    private void numbersBeginWithNothing() {
        check.sentence(TERMS, "Numbers may begin with 0.");
        BetsOnBets x = Check.told("h05;", "bph0h007,001;f1,08;f2,00;");
        due("chance(0)", x.chance(0), 5);
        due("bet(0, 3)", x.bet(0, 3), 7);
        due("fund(1, 1)", x.fund(1, 1), 8);
        due("fund(2, 1)", x.fund(2, 1), 0);
        dueInn("h005;", -1003);
        dueInn("bpb0b0007,001;", -1008);
        dueInn("f0,000;", -1005);
    }

    private void atLeastOne() {
        check.sentence(TERMS, "At least one STATEMENT.");
        dueInn("", -1000);
        dueInn("f0,0;", 1);
        BetsOnBets x = Check.told("h1;");
        due("no letters after an INN", x.inn(), -1000);
        due("count(0)", x.count(0), 1);
    }

    /** With each letter that there is behind each beginning of a STATEMENT. */
    private void firstLetter() {
        check.sentence(TERMS, "FAULT: kind 1 the place of the first letter with which no INN can go on");
        everyLetter("h5;", "hbf", DIGITS, DIGITS + ";");
        everyLetter("h50;", "hbf", DIGITS, DIGITS + ";", ";");
        everyLetter("bph0h09,001;", "hbf", "paoexn", "hb", DIGITS, "hb", DIGITS, DIGITS, DIGITS + ",", DIGITS, DIGITS,
                DIGITS, ";");
        everyLetter("bnb0b012,312;", "hbf", "paoexn", "hb", DIGITS, "hb", DIGITS, DIGITS, DIGITS + ",", ",", DIGITS,
                DIGITS, DIGITS, ";");
        everyLetter("f0,9;", "hbf", DIGITS, ",", DIGITS, DIGITS + ";");
        everyLetter("f3,99;", "hbf", DIGITS, ",", DIGITS, DIGITS + ";", ";");
        dueInn("xyz", -1000);
        dueInn("h1;x;y;", -1003);
        dueInn(ALMOST_FULL + "f0,1x", -1079);
    }

    private void everyLetter(String statement, String... allowed) {
        for (int place = 0; place < statement.length(); place++) {
            for (int c = 0; c < 256; c++) {
                boolean goesOn = allowed[place].indexOf(c) >= 0;
                boolean isWhole = goesOn && c == ';';
                for (String ahead : new String[] {"", AHEAD}) {
                    String text = ahead + statement.substring(0, place) + (char) c;
                    int answer = Check.inn(Check.told("h1;"), text);
                    int fault = goesOn ? -1000 - text.length() : -999 - text.length();
                    check.holds("after " + text + " (letter " + c + ") it answers " + answer,
                            isWhole ? answer > 0 : answer == fault);
                }
            }
        }
    }

    private void theEnd() {
        check.sentence(TERMS, "(the end, if something lacks): -1000 less the place;");
        for (String statement : new String[] {"h5;", "h50;", "bph0h09,001;", "bnb0b012,312;", "f0,9;", "f3,99;"}) {
            for (int length = 0; length < statement.length(); length++) {
                dueInn(statement.substring(0, length), -1000 - length);
                if (length > 0) {
                    dueInn(AHEAD + statement.substring(0, length), -1008 - length);
                }
            }
        }
        dueInn(ALMOST_FULL + "f0,11", -1080);
        dueInn(ALMOST_FULL + "f", -1076);
    }

    private void firstKindGoesAhead() {
        check.sentence(TERMS, "else kind 2");
        dueInn("h0;", -2000);
        dueInn("h0;x", -1003);
        dueInn("h0;h", -1004);
        dueInn("f9,1;h1;bph9h90,099", -1019);
        dueInn("h1;h0;h0;;", -1009);
    }

    private void firstStatement() {
        check.sentence(TERMS, "the place of the first letter of the first STATEMENT that, behind all ahead of it in the"
                + " text, is not as it must be");
        dueInn("f9,1;", -2000);
        dueInn("f0,1;f9,1;", -2005);
        dueInn("f0,1;f9,1;f8,1;", -2005);
        dueInn("h12;f0,1;h00;h0;", -2009);
        dueInn("h1;bph0h01,001;bph0h01,000;", -2015);
        dueInn(ALMOST_FULL + "f4,1;", -2075);
        due("behind what came earlier", Check.inn(Check.told("h1;"), "bph0h01,001;bph1h11,001;h1;"), -2012);
        dueInn("h1;bph0h01,001;h1;bph1h11,001;", 4);
    }

    private void outOfRange() {
        check.sentence(TERMS, "(a number out of range,");
        dueInn("h0;", -2000);
        dueInn("h00;", -2000);
        dueInn("bpb0b00,001;", -2000);
        dueInn("bpb0b000,001;", -2000);
        for (int person = 4; person < 10; person++) {
            dueInn("bpb0b01,0" + person + "0;", -2000);
            dueInn("bpb0b01,00" + person + ";", -2000);
            dueInn("f" + person + ",1;", -2000);
        }
        dueInn("bpb0b01,000;", -2000);
        dueInn("bpb0b01,033;", -2000);
        dueInn("f0,0;f0,00;", 2);
        dueInn("bpb0b01,001;", 1);
    }

    private void happeningNotThere() {
        check.sentence(TERMS, "a HAPPENING that is not there ahead of it,");
        for (char kind : "paoexn".toCharArray()) {
            dueInn("b" + kind + "h0b01,001;", -2000);
            dueInn("b" + kind + "b0h01,001;", -2000);
            dueInn("h1;b" + kind + "h0h11,001;", -2003);
            dueInn("h1;b" + kind + "h1h01,001;", -2003);
            dueInn("h1;b" + kind + "h0h01,001;", 2);
        }
        dueInn("bph0h01,001;h1;", -2000);
        dueInn("h1;bph1h01,001;h1;", -2003);
        dueInn("h1;h1;h1;bph2h31,001;h1;", -2009);
        dueInn("h1;h1;h1;h1;bph2h31,001;", 5);
        BetsOnBets x = Check.told("h1;");
        x.image();
        Check.inn(x, "h1;");
        x.on();
        due("a HAPPENING no more there", Check.inn(x, "bph1h01,001;"), -2000);
    }

    private void betAboveFive() {
        check.sentence(TERMS, "a BET above 5,");
        for (char kind : "paoexn".toCharArray()) {
            for (int number = 6; number < 10; number++) {
                dueInn("f0,1;b" + kind + "b" + number + "b01,001;", -2005);
                dueInn("f0,1;b" + kind + "b0b" + number + "1,001;", -2005);
            }
            dueInn("f0,1;b" + kind + "b5b51,001;", 2);
        }
    }

    private void noRoom() {
        check.sentence(TERMS, "no room for more): -2000 less the place.");
        String lost = Examples.LOSES + "1,001;";
        dueInn("h1;h1;h1;h1;h1;", -2012);
        dueInn("h1;h1;h1;h1;f0,1;h1;", -2017);
        due("a seventh BET", Check.inn(Check.told(lost.repeat(6)), lost), -2000);
        due("a seventh BET behind a HAPPENING", Check.inn(Check.told(lost.repeat(6)), "h1;" + lost), -2003);
        due("BETS 5, 6 and 7", Check.inn(Check.told(lost.repeat(4)), lost.repeat(3)), -2024);
        due("no room for HAPPENINGS, but for BETS", Check.inn(Check.told("h1;h1;h1;h1;"), lost), 1);
        due("no room for BETS, but for HAPPENINGS", Check.inn(Check.told(lost.repeat(6)), "h1;h1;h1;h1;"), 4);
        due("FUNDS need no room", Check.inn(Check.told("h1;h1;h1;h1;", lost.repeat(6)), "f0,1;".repeat(16)), 16);
    }

    private void allOfItComes() {
        check.sentence(TERMS, "Without FAULT all of it comes,");
        BetsOnBets x = new BetsOnBets();
        due("inn()", Check.inn(x, "h10;h20;h30;h40;bph0h15,001;bah2h36,112;f0,1;f1,2;f2,3;f3,4;f3,5;"), 11);
        for (int i = 0; i < 4; i++) {
            due("chance(" + i + ")", x.chance(i), 10 * (i + 1));
            due("fund(" + i + ", 0)", x.fund(i, 0), new int[] {1, 2, 3, 5}[i]);
        }
        due("bet(0, 3)", x.bet(0, 3), 5);
        due("bet(1, 3)", x.bet(1, 3), 6);
        due("count(1)", x.count(1), 2);
        due("ways(1, 1)", x.ways(1, 1), 3);
        due("purse(1, 1)", x.purse(1, 1), 6);
    }

    private void orNothing() {
        check.sentence(TERMS, "with one nothing.");
        String right = "h30;bah2h16,112;f0,1;f1,2;";
        for (String wrong : new String[] {"h0;", "f4,1;", "bph4h01,001;", "h", ";", "h1;h1;"}) {
            BetsOnBets x = Check.told("h10;h20;", "bph0h15,001;f1,9;");
            int place = wrong.equals("h1;h1;") ? 3 : wrong.equals("h") ? 1 : 0;
            int kind = wrong.length() == 1 ? -1000 : -2000;
            due(right + wrong, Check.inn(x, right + wrong), kind - right.length() - place);
            due("count(0)", x.count(0), 2);
            due("chance(2)", x.chance(2), -1);
            due("count(1)", x.count(1), 1);
            due("bet(1, 0)", x.bet(1, 0), -1);
            due("count(3)", x.count(3), 5);
            due("fund(0, 0)", x.fund(0, 0), 50);
            due("fund(1, 0)", x.fund(1, 0), 9);
            due("ways(3, 1)", x.ways(3, 1), 1);
            due("ways(4, 0)", x.ways(4, 0), -1);
            due("purse(0, 0)", x.purse(0, 0), -5);
            due("the next HAPPENING", Check.inn(x, "h44;"), 1);
            due("chance(2)", x.chance(2), 44);
        }
    }
}
