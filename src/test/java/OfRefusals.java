import java.util.ArrayList;
import java.util.List;

/** Sentences of the Terms about THE IMAGE and REFUSALS. */
final class OfRefusals {
    private static final String TERMS = "Terms";
    private final Check check;

    OfRefusals(Check check) {
        this.check = check;
    }

    void run() {
        image();
        imageNot();
        on();
        firstThatFits();
        nothingChanges();
        now();
        nobody();
        other();
        state();
        below();
        room();
        far();
    }

    private void due(String call, long got, long want) {
        check.due(call, got, want);
    }

    /** Whether BET 0 or HAPPENING 1 or the FUNDS are told, nothing of it goes from THE IMAGE. */
    private void image() {
        check.sentence(TERMS, "THE IMAGE: all that is told");
        BetsOnBets x = Examples.four();
        x.set(1, 0, 88);
        x.set(2, 1, 6);
        for (int person = 0; person < 4; person++) {
            x.fund(person, 20 + person);
        }
        String ahead = Refused.all(x);
        due("image()", x.image(), 3);
        check.holds("image() changes what is told", Refused.all(x).equals(ahead));
        x.set(0, 0, 1);
        x.set(1, 1, 1);
        x.fund(3, 99);
        Check.inn(x, "h33;bah2b01,001;f0,0;");
        check.holds("what is told stays as in THE IMAGE", !Refused.all(x).equals(ahead));
        due("on()", x.on(), 3);
        check.holds("THE IMAGE lacks something", Refused.all(x).equals(ahead));
    }

    private void imageNot() {
        check.sentence(TERMS, "(not the ROW, letters, REFUSALS);");
        BetsOnBets x = Examples.four();
        x.row(490);
        Check.letters(x, "h7");
        x.chance(9);
        x.image();
        x.row(525);
        x.letter('7');
        x.chance(9);
        x.bet(0, 9);
        due("on()", x.on(), 3);
        due("count(4)", x.count(4), 2);
        due("the ROW", x.judge(0), -9);
        due("count(5)", x.count(5), 3);
        x.letter(';');
        due("inn()", x.inn(), 1);
        due("the letters", x.chance(2), 77);
        due("count(11)", x.count(11), 2);
        due("count(12)", x.count(12), 1);
        x.image();
        due("letters become no part", x.count(5), 0);
        x.letter('h');
        x.row(1);
        x.judge(0);
        x.on();
        due("the ROW stays without", x.count(4), 0);
        due("the letters stay", x.count(5), 1);
    }

    private void on() {
        check.sentence(TERMS, "ON from it all is as then.");
        BetsOnBets x = Examples.four();
        String ahead = Refused.all(x);
        x.image();
        for (int time = 1; time <= 2; time++) {
            Check.inn(x, "h1;h1;bpb4b41,001;bab3b31,001;");
            due("in between, time " + time, x.voids(), 31);
            x.set(0, 0, 40 + time);
            due("on(), time " + time, x.on(), 3);
            check.holds("not as then, time " + time, Refused.all(x).equals(ahead));
        }
        due("room for HAPPENINGS as then", Check.inn(x, "h5;h6;h7;"), -2006);
        due("room for HAPPENINGS as then", Check.inn(x, "h5;h6;"), 2);
        BetsOnBets older = Check.told("h10;");
        older.image();
        Check.inn(older, "h20;");
        older.image();
        Check.inn(older, "h30;");
        older.on();
        due("THE IMAGE is the last one taken", older.count(0), 2);
        BetsOnBets faulty = Check.told("h10;");
        faulty.image();
        Check.inn(faulty, "h20;h0;");
        faulty.on();
        due("after a FAULT", faulty.count(0), 1);
        BetsOnBets tried = Examples.four();
        tried.image();
        tried.sparing(0);
        tried.safeOdds(0);
        tried.on();
        check.holds("not as then after trying", Refused.all(tried).equals(ahead));
    }

    /** What is asked goes by what is told now, whatever was told with a FAULT, changed or tried ahead of it. */
    private void now() {
        check.sentence(TERMS, "nothing changes but how many there were):");
        String happenings = "h30;h80;";
        String bets = "bph0h07,301;beh1b09,212;bpb2h06,430;";
        String funds = "f1,4;f2,60;";
        Path direct = () -> Check.told(happenings, bets, funds);
        for (int bettor = 0; bettor < 4; bettor++) {
            for (int away = 1; away < 4; away++) {
                String text = "bph0h099,0" + bettor + (bettor + away) % 4 + ";h8;f" + bettor + ",0;h0;";
                due(text, Check.inn(direct.walked(), text), -2021);
                dueAsBy(direct, "inn() of " + text, () -> {
                    BetsOnBets x = direct.walked();
                    Check.inn(x, text);
                    return x;
                });
            }
        }
        dueAsBy(direct, "set()", () -> {
            BetsOnBets x = Check.told(happenings, "bph0h01,001;beh1b099,912;bpb2h050,530;", funds);
            int[][] numbers = {{7, 3}, {9, 2}, {6, 4}};
            for (int bet = 0; bet < 3; bet++) {
                x.set(bet, 0, numbers[bet][0]);
                x.set(bet, 1, numbers[bet][1]);
            }
            return x;
        });
        dueAsBy(direct, "fund()", () -> {
            BetsOnBets x = Check.told(happenings, bets, "f1,99;f2,0;f3,1;");
            x.fund(1, 4);
            x.fund(2, 60);
            x.fund(3, 50);
            return x;
        });
        dueAsBy(direct, "several INNS", () -> Check.told("h30;h80;bph0h07,301;f1,4;", "beh1b09,212;f2,60;", "bpb2h06,430;"));
        dueAsBy(direct, "on()", () -> {
            BetsOnBets x = direct.walked();
            x.image();
            Check.inn(x, "h50;bah2b19,901;f0,0;");
            x.set(1, 1, 9);
            x.on();
            return x;
        });
        dueAsBy(direct, "trying", () -> {
            BetsOnBets x = direct.walked();
            x.sparing(3);
            x.safeOdds(0);
            return x;
        });
        nowWithoutWhatIsMarked();
    }

    /** BETS on BET 3, which has come and is not there now: neither RINGS nor VOIDS come from it. */
    private void nowWithoutWhatIsMarked() {
        Path direct = () -> Check.told("bpb3b31,101;bab3b31,112;bpb1b11,123;");
        dueAsBy(direct, "a FAULT behind a RING", () -> {
            BetsOnBets x = direct.walked();
            Check.inn(x, "bpb0b01,001;h0;");
            return x;
        });
        String[] later = {"bpb0b01,001;", "bab0b01,001;", "h50;beh0b01,001;", "h50;boh0b01,001;", "h50;bxh0b01,001;"};
        for (String text : later) {
            dueAsBy(direct, "on() from " + text, () -> {
                BetsOnBets x = direct.walked();
                x.image();
                Check.inn(x, text);
                x.on();
                return x;
            });
            dueAsBy(direct, "on() and a FAULT with " + text, () -> {
                BetsOnBets x = direct.walked();
                x.image();
                Check.inn(x, text);
                x.on();
                Check.inn(x, text + "h0;");
                return x;
            });
        }
    }

    /** A way to come to what is told. */
    private interface Path {
        BetsOnBets walked();
    }

    /** Each question is the first one that is asked at the end of the path. */
    private void dueAsBy(Path direct, String name, Path path) {
        List<Refused.Call> questions = questions();
        for (int i = 0; i < questions.size(); i++) {
            due("question " + i + " behind " + name, questions.get(i).on(path.walked()), questions.get(i).on(direct.walked()));
        }
        check.holds("all behind " + name, Refused.all(path.walked()).equals(Refused.all(direct.walked())));
    }

    private static List<Refused.Call> questions() {
        List<Refused.Call> all = new ArrayList<>(List.of(x -> x.voids(), x -> x.host(), x -> x.rings(), x -> x.image(),
                x -> x.fitting(0), x -> x.fitting(1), x -> x.bet(3, 0), x -> x.chance(2), x -> x.set(3, 0, 1)));
        for (int i = 0; i < 4; i++) {
            int n = i;
            all.addAll(List.of(x -> x.mean(n), x -> x.worst(n, 0), x -> x.worst(n, 1), x -> x.best(n, 0),
                    x -> x.best(n, 1), x -> x.sure(n), x -> x.likely(n), x -> x.sparing(n), x -> x.fund(n, 1)));
            all.addAll(List.of(x -> x.purse(n, 0), x -> x.purse(n, 3), x -> x.purse(n, 4), x -> x.seeds(9, 12345, n),
                    x -> x.safeOdds(n), x -> x.bet(n, 3), x -> x.chance(n), x -> x.count(n)));
            all.addAll(List.of(x -> x.ways(n, 0), x -> x.ways(n, 1), x -> x.ways(n + 4, 0), x -> x.standing(n, 3),
                    x -> x.standing(n, 4), x -> x.settling(n), x -> x.settling(n + 4), x -> x.cannotPay(n),
                    x -> x.cannotPay(n + 4), x -> x.judge(n + 4)));
            all.add(x -> x.row(500 + x.purse(0, n)) + 10 * x.row(500 + x.purse(1, n)) + 100 * x.fitting(0));
        }
        return all;
    }

    private void firstThatFits() {
        check.sentence(TERMS, "REFUSALS (the call answers the number, the first that fits in the order in which it tells"
                + " them;");
        BetsOnBets x = Examples.four();
        due("bet(3, 7)", x.bet(3, 7), -1);
        due("set(3, 2, 0)", x.set(3, 2, 0), -1);
        due("set(0, 2, 0)", x.set(0, 2, 0), -2);
        due("set(0, 2, 100)", x.set(0, 2, 100), -2);
        due("fund(4, -1)", x.fund(4, -1), -1);
        due("fund(4, 100)", x.fund(4, 100), -1);
        due("ways(4, 2)", x.ways(4, 2), -1);
        due("worst(4, 2)", x.worst(4, 2), 1000000001);
        due("best(4, 2)", x.best(4, 2), 1000000001);
        due("seeds(0, 0, 4)", x.seeds(0, 0, 4), 1000000001);
        due("seeds(31, 0, 4)", x.seeds(31, 0, 4), 1000000001);
        for (int n = 0; n < 4; n++) {
            x.row(500);
        }
        Check.letters(x, "x".repeat(80));
        due("row(-1), full", x.row(-1), -4);
        due("letter(-1), full", x.letter(-1), -4);
        due("count(11)", x.count(11), 9);
        due("count(12)", x.count(12), 2);
        due("count(14)", x.count(14), 2);
        due("count(16)", x.count(16), 0);
    }

    private void nothingChanges() {
        check.sentence(TERMS, "nothing changes but how many there were):");
        BetsOnBets x = Refused.prepared();
        String ahead = Refused.all(x);
        Refused.Call[] calls = {y -> y.set(0, 0, 0), y -> y.set(0, 1, 10), y -> y.fund(0, 100), y -> y.fund(0, -1),
            y -> y.judge(8), y -> y.row(1000), y -> y.letter(256), y -> y.seeds(0, 0, 0), y -> y.fitting(2),
            y -> y.bet(0, 7), y -> y.sparing(4), y -> y.safeOdds(3)};
        int refused = 0;
        for (Refused.Call call : calls) {
            call.on(x);
            refused++;
        }
        int counted = 0;
        for (int what = 11; what <= 16; what++) {
            counted += x.count(what);
        }
        due("REFUSALS", counted, refused);
        check.holds("something changes", Refused.all(x).equals(ahead));
        BetsOnBets without = Examples.four();
        ahead = Refused.all(without);
        without.on();
        check.holds("on() without THE IMAGE changes something", Refused.all(without).equals(ahead));
        due("REFUSALS", without.count(13), 1);
    }

    private void nobody() {
        check.sentence(TERMS, "-1 NOBODY: no such HAPPENING, BET, PERSON, END.");
        BetsOnBets x = Examples.four();
        Refused.Call[] calls = {y -> y.chance(2), y -> y.bet(3, 0), y -> y.set(3, 0, 1), y -> y.fund(4, 1),
            y -> y.ways(4, 0), y -> y.standing(3, 0), y -> y.standing(0, 4), y -> y.sure(4), y -> y.likely(4),
            y -> y.sparing(4), y -> y.safeOdds(3), y -> y.settling(4), y -> y.cannotPay(4), y -> y.judge(4)};
        for (int i = 0; i < calls.length; i++) {
            due("call " + i, calls[i].on(x), -1);
            due("count(11)", x.count(11), i + 1);
        }
    }

    private void other() {
        check.sentence(TERMS, "-2 OTHER: what.");
        BetsOnBets x = Examples.four();
        Refused.Call[] calls = {y -> y.bet(0, 7), y -> y.bet(0, -1), y -> y.set(0, 2, 1), y -> y.set(0, -1, 1),
            y -> y.ways(0, 2), y -> y.ways(0, -1), y -> y.fitting(2), y -> y.fitting(-1)};
        for (int i = 0; i < calls.length; i++) {
            due("call " + i, calls[i].on(x), -2);
            due("count(12)", x.count(12), i + 1);
        }
        due("an other what of count() is no REFUSAL", x.count(99), -9);
        due("count(12)", x.count(12), calls.length);
    }

    private void state() {
        check.sentence(TERMS, "-3 STATE: it is not as it must be.");
        BetsOnBets x = Examples.four();
        due("on()", x.on(), -3);
        due("on() again", x.on(), -3);
        due("count(13)", x.count(13), 2);
        x.image();
        due("on() from THE IMAGE", x.on(), 3);
        due("count(13)", x.count(13), 2);
    }

    private void below() {
        check.sentence(TERMS, "-4 BELOW: a number below the least.");
        BetsOnBets x = Examples.four();
        Refused.Call[] calls = {y -> y.letter(-1), y -> y.set(0, 0, 0), y -> y.set(0, 1, -1), y -> y.fund(0, -1),
            y -> y.row(-1)};
        for (int i = 0; i < calls.length; i++) {
            due("call " + i, calls[i].on(x), -4);
            due("count(14)", x.count(14), i + 1);
        }
        due("seeds(0, 0, 0)", x.seeds(0, 0, 0), 1000000004);
        due("count(14)", x.count(14), calls.length + 1);
        due("the least themselves", x.letter(0) + x.set(0, 0, 1) + x.set(0, 1, 0) + x.fund(0, 0) + x.row(0),
                1 + 10 + 2 + 50 + 1);
        due("count(14)", x.count(14), calls.length + 1);
    }

    private void room() {
        check.sentence(TERMS, "-6 ROOM: a number above the greatest, no room.");
        BetsOnBets x = Examples.four();
        Refused.Call[] calls = {y -> y.letter(256), y -> y.set(0, 0, 100), y -> y.set(0, 1, 10), y -> y.fund(0, 100),
            y -> y.row(1000)};
        for (int i = 0; i < calls.length; i++) {
            due("call " + i, calls[i].on(x), -6);
            due("count(16)", x.count(16), i + 1);
        }
        due("seeds(31, 0, 0)", x.seeds(31, 0, 0), 1000000006);
        due("the greatest themselves", x.letter(255) + x.set(0, 0, 99) + x.set(0, 1, 9) + x.fund(0, 99) + x.row(999),
                1 + 10 + 2 + 50 + 1);
        due("count(16)", x.count(16), calls.length + 1);
        for (int n = 1; n < 4; n++) {
            x.row(1);
        }
        Check.letters(x, "h".repeat(79));
        due("no room in the ROW", x.row(1), -6);
        due("no room for letters", x.letter('h'), -6);
        due("count(16)", x.count(16), calls.length + 3);
    }

    private void far() {
        check.sentence(TERMS, "Of purse(), mean(), worst(), best(), seeds() REFUSALS are 1000000000 less them (-1 is told as"
                + " 1000000001).");
        BetsOnBets x = Examples.four();
        due("purse(4, 0)", x.purse(4, 0), 1000000001);
        due("purse(0, 4)", x.purse(0, 4), 1000000001);
        due("mean(4)", x.mean(4), 1000000001);
        due("worst(4, 0)", x.worst(4, 0), 1000000001);
        due("worst(0, 2)", x.worst(0, 2), 1000000002);
        due("best(4, 0)", x.best(4, 0), 1000000001);
        due("best(0, 2)", x.best(0, 2), 1000000002);
        due("seeds(1, 0, 4)", x.seeds(1, 0, 4), 1000000001);
        due("seeds(0, 0, 0)", x.seeds(0, 0, 0), 1000000004);
        due("seeds(31, 0, 0)", x.seeds(31, 0, 0), 1000000006);
        due("count(11)", x.count(11), 6);
        due("count(12)", x.count(12), 2);
        due("count(14)", x.count(14), 1);
        due("count(16)", x.count(16), 1);
    }
}
