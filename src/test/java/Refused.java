/** What stands behind a call that is refused: all as ahead of it, but for how many REFUSALS there were. */
final class Refused {
    /** A call that is looked at. */
    interface Call {
        int on(BetsOnBets x);
    }

    static final int LEAST = Integer.MIN_VALUE;
    static final int MOST = Integer.MAX_VALUE;
    private final Check check;

    Refused(Check check) {
        this.check = check;
    }

    /**
     * Three HAPPENINGS and BETS, two numbers in the ROW, two letters, and THE IMAGE of a state with two HAPPENINGS,
     * another STAKE and other FUNDS.
     */
    static BetsOnBets prepared() {
        BetsOnBets x = Examples.four();
        x.fund(1, 11);
        x.image();
        x.set(0, 0, 12);
        x.fund(2, 7);
        Check.inn(x, "h9;");
        x.row(488);
        x.row(527);
        Check.letters(x, "h4");
        return x;
    }

    void by(int number, String name, Call call) {
        dueOn(prepared(), name, call, number, number);
    }

    /** As purse(), mean(), worst(), best() and seeds() tell it. */
    void farBy(int number, String name, Call call) {
        dueOn(prepared(), name, call, number, 1000000000 - number);
    }

    private void dueOn(BetsOnBets x, String name, Call call, int number, int answer) {
        String ahead = all(x);
        check.due(name, call.on(x), answer);
        dueRefusals(x, name, number);
        check.holds(name + " changes what is told", all(x).equals(ahead));
        check.due("the letters behind " + name, x.letter(';'), 3);
        check.due("their INN behind " + name, x.inn(), 1);
        check.due("what they said, behind " + name, x.chance(3), 4);
        check.due("on() behind " + name, x.on(), 3);
        check.due("HAPPENINGS of THE IMAGE behind " + name, x.count(0), 2);
        check.due("STAKE of THE IMAGE behind " + name, x.bet(0, 3), 10);
        check.due("FUND of THE IMAGE behind " + name, x.fund(2, 0), 50);
        dueRefusals(x, name, number);
    }

    private void dueRefusals(BetsOnBets x, String name, int number) {
        for (int what = 11; what <= 16; what++) {
            check.due("count(" + what + ") behind " + name, x.count(what), what == 10 - number ? 1 : 0);
        }
    }

    /** All that can be asked without a change, but for REFUSALS and which letters there are. */
    static String all(BetsOnBets x) {
        StringBuilder all = new StringBuilder();
        for (int what = 0; what <= 5; what++) {
            all.append(x.count(what)).append(' ');
        }
        int happenings = x.count(0);
        for (int happening = 0; happening < happenings; happening++) {
            all.append(x.chance(happening)).append(' ');
        }
        int bets = x.count(1);
        for (int bet = 0; bet < bets; bet++) {
            for (int what = 0; what < 7; what++) {
                all.append(x.bet(bet, what)).append(' ');
            }
            all.append(x.safeOdds(bet)).append(' ');
        }
        int ends = x.count(2);
        for (int end = 0; end < ends; end++) {
            addEnd(all, x, end, bets);
        }
        for (int person = 0; person < 4; person++) {
            addPerson(all, x, person);
        }
        all.append(x.voids()).append(' ').append(x.host()).append(' ').append(x.rings()).append(' ');
        return all.append(x.fitting(0)).append(' ').append(x.fitting(1)).toString();
    }

    private static void addEnd(StringBuilder all, BetsOnBets x, int end, int bets) {
        all.append(x.ways(end, 0)).append(' ').append(x.ways(end, 1)).append(' ');
        for (int bet = 0; bet < bets; bet++) {
            all.append(x.standing(bet, end)).append(' ');
        }
        for (int person = 0; person < 4; person++) {
            all.append(x.purse(person, end)).append(' ');
        }
        all.append(x.settling(end)).append(' ').append(x.cannotPay(end)).append(' ');
    }

    private static void addPerson(StringBuilder all, BetsOnBets x, int person) {
        int fund = x.fund(person, 0);
        x.fund(person, fund);
        all.append(fund).append(' ').append(x.mean(person)).append(' ').append(x.worst(person, 0)).append(' ');
        all.append(x.worst(person, 1)).append(' ').append(x.best(person, 0)).append(' ').append(x.best(person, 1));
        all.append(' ').append(x.sure(person)).append(' ').append(x.likely(person)).append(' ');
        all.append(x.sparing(person)).append(' ').append(x.seeds(9, 12345, person)).append(' ');
    }
}
