/** Answers worked out by hand, promise by promise: ordinary ones, the edges that the document names, wrong inputs. */
public final class PromisesTest {
    private static final Check CHECK = new Check("PromisesTest");
    private static final int LEAST = Integer.MIN_VALUE;
    private static final int MOST = Integer.MAX_VALUE;
    /** What answers far off tell for -1, -2, -4, -6. */
    private static final int FAR_NOBODY = 1000000001;
    private static final int FAR_OTHER = 1000000002;
    private static final int FAR_BELOW = 1000000004;
    private static final int FAR_ROOM = 1000000006;
    /** Loses always and wins always: a BET that is not there is not so. */
    private static final String LOSES = "bpb5b5";
    private static final String WINS = "bab5b5";

    public static void main(String[] args) {
        newObject();
        letter();
        innOrdinary();
        innFaultsOfLetters();
        innFaultsOfSense();
        innIsAllOrNothing();
        chance();
        bet();
        set();
        fund();
        waysOfKinds();
        waysOfRings();
        waysRefused();
        standing();
        purse();
        mean();
        worstAndBest();
        sure();
        likely();
        voids();
        sparing();
        safeOdds();
        host();
        settling();
        cannotPay();
        rings();
        row();
        fitting();
        judge();
        seeds();
        imageAndOn();
        count();
        CHECK.end();
    }

    private static void due(String call, long got, long want) {
        CHECK.due(call, got, want);
    }

    /**
     * PURSES of 0 .. 3: END 0 -10, 25, -35, 20; END 1 20, -25, -15, 20; END 2 as END 0; END 3 20, -25, 25, -20.
     * The ENDS come with 40, 40, 10 and 10 of 100.
     */
    private static BetsOnBets example() {
        return Check.told("h50;h20;", "bph0h010,201;", "bab0h15,312;", "boh1b020,123;");
    }

    private static void dueFaultless(String text, int statements) {
        due("inn of " + text, Check.inn(Check.told("h50;h50;"), text), statements);
    }

    private static void dueFault(String text, int fault) {
        BetsOnBets x = Check.told("h50;h50;");
        due("inn of " + text, Check.inn(x, text), fault);
        due("count(0) after " + text, x.count(0), 2);
        due("count(1) after " + text, x.count(1), 0);
        due("letters after " + text, x.count(5), 0);
        for (int what = 11; what <= 16; what++) {
            due("count(" + what + ") after " + text, x.count(what), 0);
        }
    }

    private static void newObject() {
        BetsOnBets x = new BetsOnBets();
        due("new count(0)", x.count(0), 0);
        due("new count(1)", x.count(1), 0);
        due("new count(2)", x.count(2), 1);
        due("new count(3)", x.count(3), 0);
        due("new count(4)", x.count(4), 0);
        due("new count(5)", x.count(5), 0);
        for (int what = 11; what <= 16; what++) {
            due("new count(" + what + ")", x.count(what), 0);
        }
        for (int person = 0; person < 4; person++) {
            due("new purse", x.purse(person, 0), 0);
            due("new mean", x.mean(person), 0);
            due("new best", x.best(person, 0), 0);
            due("new fund", x.fund(person, 1), 50);
        }
        due("new ways(0, 0)", x.ways(0, 0), 1);
        due("new ways(0, 1)", x.ways(0, 1), 0);
        due("new ways(1, 0)", x.ways(1, 0), -1);
        due("new voids()", x.voids(), 0);
        due("new rings()", x.rings(), 0);
        due("new on()", x.on(), -3);
    }

    private static void letter() {
        BetsOnBets x = new BetsOnBets();
        due("letter(0)", x.letter(0), 1);
        due("letter(255)", x.letter(255), 2);
        due("letter(-1)", x.letter(-1), -4);
        due("letter(256)", x.letter(256), -6);
        due("letter(least)", x.letter(LEAST), -4);
        due("letter(most)", x.letter(MOST), -6);
        for (int n = 3; n <= 80; n++) {
            due("letter(104)", x.letter(104), n);
        }
        due("letter 81", x.letter(104), -6);
        due("letter 81, below", x.letter(-1), -4);
        due("count(5)", x.count(5), 80);
        due("count(14)", x.count(14), 3);
        due("count(16)", x.count(16), 3);
        due("inn() of 80", x.inn(), -1000);
        due("letter after inn()", x.letter(104), 1);
    }

    private static void innOrdinary() {
        dueFaultless("h1;", 1);
        dueFaultless("h01;h99;", 2);
        dueFaultless("f0,0;", 1);
        dueFaultless("f3,99;f3,00;f0,07;", 3);
        dueFaultless("bph0h11,001;", 1);
        dueFaultless("bpb5b599,932;", 1);
        dueFaultless("h5;boh2h299,932;", 2);
        String full = "bph0h001,001;bph0h001,001;bph0h001,001;bph0h001,001;bph0h001,001;f0,0;f1,1;f2,2;";
        due("80 letters", full.length(), 80);
        dueFaultless(full, 8);
    }

    private static void innFaultsOfLetters() {
        dueFault("", -1000);
        dueFault(";", -1000);
        dueFault("H1;", -1000);
        dueFault("h", -1001);
        dueFault("h;", -1001);
        dueFault("h1", -1002);
        dueFault("h12", -1003);
        dueFault("h123;", -1003);
        dueFault("h1,", -1002);
        dueFault("h1;;", -1003);
        dueFault("h1;h", -1004);
        dueFault("b", -1001);
        dueFault("bh0h001,001;", -1001);
        dueFault("bpp", -1002);
        dueFault("bph", -1003);
        dueFault("bphh", -1003);
        dueFault("bph00", -1004);
        dueFault("bph0h0,", -1006);
        dueFault("bph0h0123", -1008);
        dueFault("bph0h01;", -1007);
        dueFault("bph0h001,12,", -1011);
        dueFault("bph0h001,1012", -1012);
        dueFault("bph0h001,001", -1012);
        dueFault("f,", -1001);
        dueFault("f00", -1002);
        dueFault("f0;", -1002);
        dueFault("f0,;", -1003);
        dueFault("f0,123", -1005);
        dueFault("f0,1,", -1004);
        dueFault("h0;h\u00ff;", -1004);
        dueFault("h1;f9,1;x", -1008);
    }

    private static void innFaultsOfSense() {
        dueFault("h0;", -2000);
        dueFault("h00;", -2000);
        dueFault("h1;h1;h1;", -2006);
        dueFault("bph2h001,001;", -2000);
        dueFault("bph0h201,001;", -2000);
        dueFault("bph9h001,001;", -2000);
        dueFault("bpb6b001,001;", -2000);
        dueFault("bpb0b901,001;", -2000);
        dueFault("bpb0b00,001;", -2000);
        dueFault("bpb0b000,001;", -2000);
        dueFault("bpb0b01,040;", -2000);
        dueFault("bpb0b01,004;", -2000);
        dueFault("bpb0b01,022;", -2000);
        dueFault("f4,1;", -2000);
        dueFault("f0,1;f9,1;f4,1;", -2005);
        dueFault("bph2h201,001;h1;", -2000);
        BetsOnBets x = Check.told(LOSES + "1,001;" + LOSES + "1,001;" + LOSES + "1,001;", LOSES + "1,001;" + LOSES
                + "1,001;" + LOSES + "1,001;");
        due("a seventh BET", Check.inn(x, "f0,1;" + LOSES + "1,001;"), -2005);
        due("count(1)", x.count(1), 6);
        due("fund(0, 1)", x.fund(0, 1), 50);
    }

    private static void innIsAllOrNothing() {
        BetsOnBets x = Check.told("h10;", "bph0h07,201;");
        due("inn()", Check.inn(x, "h20;bph1h11,112;f2,9;h0;"), -2021);
        due("count(0)", x.count(0), 1);
        due("count(1)", x.count(1), 1);
        due("chance(1)", x.chance(1), -1);
        due("fund(2, 50)", x.fund(2, 50), 50);
        due("ways(1, 1)", x.ways(1, 1), 1);
        due("inn()", Check.inn(x, "f2,9;h20;h30;bph2h11,112;f2,8;"), 5);
        due("chance(1)", x.chance(1), 20);
        due("chance(2)", x.chance(2), 30);
        due("fund(2, 50)", x.fund(2, 50), 8);
        due("ways(4, 1)", x.ways(4, 1), 2);
        due("standing(1, 4)", x.standing(1, 4), 1);
    }

    private static void chance() {
        BetsOnBets x = Check.told("h1;h99;h07;h50;");
        due("chance(0)", x.chance(0), 1);
        due("chance(1)", x.chance(1), 99);
        due("chance(2)", x.chance(2), 7);
        due("chance(3)", x.chance(3), 50);
        due("chance(4)", x.chance(4), -1);
        due("chance(-1)", x.chance(-1), -1);
        due("chance(least)", x.chance(LEAST), -1);
        due("chance(most)", x.chance(MOST), -1);
        due("count(11)", x.count(11), 4);
    }

    private static void dueBet(BetsOnBets x, int bet, int... numbers) {
        for (int what = 0; what < numbers.length; what++) {
            due("bet(" + bet + ", " + what + ")", x.bet(bet, what), numbers[what]);
        }
    }

    private static void bet() {
        BetsOnBets x = Check.told("h50;h50;", "bph0h11,001;bab0b599,923;boh1b37,312;", "beb4h008,430;bxb2b11,513;",
                "bnh0h02,601;");
        dueBet(x, 0, 0, 0, 1, 1, 0, 0, 1);
        dueBet(x, 1, 1, 10, 15, 99, 9, 2, 3);
        dueBet(x, 2, 2, 1, 13, 7, 3, 1, 2);
        dueBet(x, 3, 3, 14, 0, 8, 4, 3, 0);
        dueBet(x, 4, 4, 12, 11, 1, 5, 1, 3);
        dueBet(x, 5, 5, 0, 0, 2, 6, 0, 1);
        due("bet(6, 0)", x.bet(6, 0), -1);
        due("bet(-1, 7)", x.bet(-1, 7), -1);
        due("bet(0, 7)", x.bet(0, 7), -2);
        due("bet(0, -1)", x.bet(0, -1), -2);
        due("bet(most, 0)", x.bet(MOST, 0), -1);
        due("bet(0, least)", x.bet(0, LEAST), -2);
        due("count(11)", x.count(11), 3);
        due("count(12)", x.count(12), 3);
    }

    private static void set() {
        BetsOnBets x = example();
        due("set(0, 0, 1)", x.set(0, 0, 1), 10);
        due("set(0, 0, 99)", x.set(0, 0, 99), 1);
        due("set(0, 1, 0)", x.set(0, 1, 0), 2);
        due("set(0, 1, 9)", x.set(0, 1, 9), 0);
        due("set(0, 0, 0)", x.set(0, 0, 0), -4);
        due("set(0, 0, 100)", x.set(0, 0, 100), -6);
        due("set(0, 1, -1)", x.set(0, 1, -1), -4);
        due("set(0, 1, 10)", x.set(0, 1, 10), -6);
        due("set(0, 2, 0)", x.set(0, 2, 0), -2);
        due("set(0, -1, 100)", x.set(0, -1, 100), -2);
        due("set(3, 2, 0)", x.set(3, 2, 0), -1);
        due("set(-1, 0, 5)", x.set(-1, 0, 5), -1);
        dueBet(x, 0, 0, 0, 0, 99, 9, 0, 1);
        dueBet(x, 1, 1, 10, 1, 5, 3, 1, 2);
        due("purse(0, 1)", x.purse(0, 1), 99 * 9);
        due("purse(0, 0)", x.purse(0, 0), -99);
        due("set(2, 1, 2)", x.set(2, 1, 2), 1);
        due("purse(3, 3)", x.purse(3, 3), -40);
    }

    private static void fund() {
        BetsOnBets x = new BetsOnBets();
        due("fund(3, 0)", x.fund(3, 0), 50);
        due("fund(3, 99)", x.fund(3, 99), 0);
        due("fund(3, 100)", x.fund(3, 100), -6);
        due("fund(3, -1)", x.fund(3, -1), -4);
        due("fund(4, -1)", x.fund(4, -1), -1);
        due("fund(-1, 100)", x.fund(-1, 100), -1);
        due("fund(3, 7)", x.fund(3, 7), 99);
        due("fund(2, 7)", x.fund(2, 7), 50);
    }

    private static void dueKind(String kind, int first) {
        BetsOnBets x = Check.told("h50;h50;", "b" + kind + "h0h11,001;");
        for (int end = 0; end < 4; end++) {
            due("ways of " + kind + " in " + end, x.ways(end, 0), 1);
            due("first way of " + kind + " in " + end, x.ways(end, 1), first >> end & 1);
        }
    }

    private static void waysOfKinds() {
        dueKind("p", 0b1010);
        dueKind("a", 0b0101);
        dueKind("o", 0b1000);
        dueKind("e", 0b1110);
        dueKind("x", 0b0110);
        dueKind("n", 0b0001);
        due("a BET not there", Check.told(LOSES + "1,001;").ways(0, 1), 0);
        due("against a BET not there", Check.told(WINS + "1,001;").ways(0, 1), 1);
        due("a BET not there and a HAPPENING", Check.told("h1;", "bxb5h01,001;").ways(1, 1), 1);
    }

    private static void waysOfRings() {
        BetsOnBets itself = Check.told("bpb0b01,001;");
        due("ways of a BET on itself", itself.ways(0, 0), 2);
        due("first way of a BET on itself", itself.ways(0, 1), 0);
        BetsOnBets liar = Check.told("bab0b01,001;");
        due("ways of a BET against itself", liar.ways(0, 0), 0);
        due("first way of a BET against itself", liar.ways(0, 1), -9);
        BetsOnBets two = Check.told("bab1b01,001;bab0b01,001;");
        due("ways of two against each other", two.ways(0, 0), 2);
        due("first way of two against each other", two.ways(0, 1), 1);
        BetsOnBets six = Check.told("bpb0b01,001;bpb1b11,001;bpb2b21,001;", "bpb3b31,001;bpb4b41,001;bpb5b51,001;");
        due("ways of six on themselves", six.ways(0, 0), 64);
        BetsOnBets later = Check.told("bpb1b11,001;", WINS + "1,001;");
        due("first way, a BET on a later one", later.ways(0, 1), 3);
        BetsOnBets half = Check.told("h50;", "bxh0b01,001;");
        due("ways of one in END 0", half.ways(0, 0), 2);
        due("ways of one in END 1", half.ways(1, 0), 0);
        due("first way of one in END 1", half.ways(1, 1), -9);
    }

    private static void waysRefused() {
        BetsOnBets x = example();
        due("ways(4, 0)", x.ways(4, 0), -1);
        due("ways(-1, 2)", x.ways(-1, 2), -1);
        due("ways(3, 2)", x.ways(3, 2), -2);
        due("ways(3, -1)", x.ways(3, -1), -2);
        due("ways(3, 1)", x.ways(3, 1), 5);
        due("ways(most, 0)", x.ways(MOST, 0), -1);
        due("ways(least, 0)", x.ways(LEAST, 0), -1);
    }

    private static void standing() {
        BetsOnBets x = example();
        due("standing(0, 0)", x.standing(0, 0), 0);
        due("standing(0, 1)", x.standing(0, 1), 1);
        due("standing(1, 2)", x.standing(1, 2), 1);
        due("standing(2, 3)", x.standing(2, 3), 1);
        due("standing(2, 2)", x.standing(2, 2), 0);
        due("standing(3, 0)", x.standing(3, 0), -1);
        due("standing(0, 4)", x.standing(0, 4), -1);
        due("standing(-1, 0)", x.standing(-1, 0), -1);
        due("standing(0, -1)", x.standing(0, -1), -1);
        due("count(11)", x.count(11), 4);
        BetsOnBets mixed = Check.told("bpb0b01,001;" + WINS + "1,001;" + LOSES + "1,001;");
        due("VOID beside others", mixed.standing(0, 0), 2);
        due("WON beside a VOID", mixed.standing(1, 0), 1);
        due("LOST beside a VOID", mixed.standing(2, 0), 0);
        BetsOnBets none = Check.told("bab0b01,001;" + WINS + "1,001;" + LOSES + "1,001;");
        due("no WAYS, itself", none.standing(0, 0), 2);
        due("no WAYS, another", none.standing(1, 0), 2);
        due("no WAYS, a third", none.standing(2, 0), 2);
        BetsOnBets either = Check.told("bab1b01,001;bab0b01,001;beb0b11,001;");
        due("WON in all WAYS by others that are not", either.standing(2, 0), 1);
        due("WON in one WAY", either.standing(0, 0), 2);
    }

    private static void duePurses(BetsOnBets x, int end, int... purses) {
        for (int person = 0; person < purses.length; person++) {
            due("purse(" + person + ", " + end + ")", x.purse(person, end), purses[person]);
        }
    }

    private static void purse() {
        BetsOnBets x = example();
        duePurses(x, 0, -10, 25, -35, 20);
        duePurses(x, 1, 20, -25, -15, 20);
        duePurses(x, 2, -10, 25, -35, 20);
        duePurses(x, 3, 20, -25, 25, -20);
        due("purse(4, 0)", x.purse(4, 0), FAR_NOBODY);
        due("purse(-1, 0)", x.purse(-1, 0), FAR_NOBODY);
        due("purse(0, 4)", x.purse(0, 4), FAR_NOBODY);
        due("purse(0, -1)", x.purse(0, -1), FAR_NOBODY);
        due("count(11)", x.count(11), 4);
        duePurses(Check.told("bab0b05,901;"), 0, 0, 0, 0, 0);
        duePurses(Check.told(WINS + "5,001;"), 0, 0, 0, 0, 0);
        duePurses(Check.told(WINS + "99,901;", WINS + "99,902;", WINS + "99,903;"), 0, 2673, -891, -891, -891);
    }

    private static void mean() {
        BetsOnBets x = example();
        due("mean(0)", x.mean(0), 500);
        due("mean(1)", x.mean(1), 0);
        due("mean(2)", x.mean(2), -2100);
        due("mean(3)", x.mean(3), 1600);
        due("mean(4)", x.mean(4), FAR_NOBODY);
        due("mean(-1)", x.mean(-1), FAR_NOBODY);
        BetsOnBets cut = Check.told("h33;h33;", "boh0h11,101;");
        due("mean cut toward 0 from below", cut.mean(0), -78);
        due("mean cut toward 0 from above", cut.mean(1), 78);
        BetsOnBets rare = Check.told("h1;h1;h1;h1;", "boh0h199,901;boh2b099,901;", "boh3b199,901;");
        due("mean of rare ones", rare.mean(0), -29690);
        BetsOnBets great = Check.told(WINS + "99,901;" + WINS + "99,901;", WINS + "99,901;" + WINS + "99,901;");
        due("a great mean", great.mean(0), 356400);
        due("a great mean, the other", great.mean(1), -356400);
    }

    private static void worstAndBest() {
        BetsOnBets x = example();
        int[][] want = {{-10, 0, 20, 1}, {-25, 1, 25, 0}, {-35, 0, 25, 3}, {-20, 3, 20, 0}};
        for (int person = 0; person < 4; person++) {
            due("worst(" + person + ", 0)", x.worst(person, 0), want[person][0]);
            due("worst(" + person + ", 1)", x.worst(person, 1), want[person][1]);
            due("best(" + person + ", 0)", x.best(person, 0), want[person][2]);
            due("best(" + person + ", 1)", x.best(person, 1), want[person][3]);
        }
        due("worst(4, 2)", x.worst(4, 2), FAR_NOBODY);
        due("worst(-1, 0)", x.worst(-1, 0), FAR_NOBODY);
        due("worst(0, 2)", x.worst(0, 2), FAR_OTHER);
        due("worst(0, -1)", x.worst(0, -1), FAR_OTHER);
        due("best(4, 2)", x.best(4, 2), FAR_NOBODY);
        due("best(-1, 0)", x.best(-1, 0), FAR_NOBODY);
        due("best(0, 2)", x.best(0, 2), FAR_OTHER);
        due("best(0, -1)", x.best(0, -1), FAR_OTHER);
        due("count(11)", x.count(11), 4);
        due("count(12)", x.count(12), 4);
    }

    private static void sure() {
        BetsOnBets x = Check.told("h50;", "bph0h010,201;", LOSES + "7,032;");
        due("sure in no END", x.sure(3), 0);
        due("sure in all ENDS", x.sure(2), 1);
        due("sure with a loss", x.sure(0), 0);
        due("sure(4)", x.sure(4), -1);
        due("sure(-1)", x.sure(-1), -1);
        BetsOnBets never = Check.told("h50;", "bph0h010,023;");
        due("never below, once above", never.sure(3), 1);
        due("never above", never.sure(2), 0);
        due("always nothing", never.sure(0), 0);
        due("of nobody", never.sure(LEAST), -1);
        due("sure of one coin", Check.told(LOSES + "1,001;").sure(1), 1);
    }

    private static void likely() {
        BetsOnBets x = example();
        due("likely(0)", x.likely(0), 50);
        due("likely(1)", x.likely(1), 50);
        due("likely(2)", x.likely(2), 10);
        due("likely(3)", x.likely(3), 90);
        due("likely(4)", x.likely(4), -1);
        due("likely(-1)", x.likely(-1), -1);
        BetsOnBets cut = Check.told("h33;h33;", "boh0h11,101;");
        due("likely cut", cut.likely(0), 10);
        due("likely cut, the other", cut.likely(1), 89);
        due("likely of nothing", cut.likely(2), 0);
        due("likely always", Check.told(LOSES + "1,001;").likely(1), 100);
        BetsOnBets nothing = Check.told("h50;", "bph0h010,001;");
        due("a PURSE of nothing is not above", nothing.likely(0), 0);
        due("above in half", nothing.likely(1), 50);
    }

    private static void voids() {
        due("voids() without", example().voids(), 0);
        BetsOnBets x = Check.told("h50;", "bph0h01,001;bxh0b11,001;" + WINS + "1,001;");
        due("no WAYS in END 1", x.voids(), 7);
        due("two WAYS in END 0", Check.told("h50;", "bph0h01,001;beh0b11,001;").voids(), 2);
        due("two WAYS in END 1", Check.told("h50;", "bph0h01,001;boh0b11,001;").voids(), 2);
        due("different BETS in different ENDS", Check.told("h50;", "beh0b01,001;boh0b11,001;").voids(), 3);
    }

    private static void sparing() {
        BetsOnBets x = example();
        due("sparing(0)", x.sparing(0), 0);
        due("sparing(1)", x.sparing(1), 100);
        due("sparing(2)", x.sparing(2), 200);
        due("sparing without BETS as BETTOR", x.sparing(3), -9);
        due("sparing(4)", x.sparing(4), -1);
        due("sparing(-1)", x.sparing(-1), -1);
        duePurses(x, 0, -10, 25, -35, 20);
        dueBet(x, 0, 0, 0, 0, 10, 2, 0, 1);
        due("sparing by a greater STAKE", Check.told("h50;", "bph0h010,312;bph0h05,121;").sparing(2), 120);
        due("sparing, the least BET", Check.told("h50;", "bph0h010,312;bph0h05,121;bph0h05,121;").sparing(2), 115);
        due("sparing, the least STAKE",
                Check.told("h50;", "bph0h020,212;beh0b11,121;bah0h010,332;").sparing(2), 120);
        BetsOnBets changed = Check.told("h50;", "bph0h010,312;bph0h05,121;");
        changed.set(0, 0, 4);
        due("sparing after set()", changed.sparing(2), 108);
        changed.set(0, 1, 2);
        due("sparing after another set()", changed.sparing(2), 106);
        BetsOnBets both = Check.told("h50;", "bph0h010,101;bah0h03,101;");
        due("sparing, one BET at a time", both.sparing(0), 3);
        due("sparing by the last STAKE", Check.told(WINS + "5,101;").sparing(0), 99);
        due("sparing where nothing helps", Check.told(WINS + "5,001;").sparing(0), -9);
        due("sparing from the greatest STAKE", Check.told(WINS + "99,901;").sparing(0), -9);
        due("sparing by another BET alone", Check.told(WINS + "99,901;" + WINS + "01,301;").sparing(0), 199);
    }

    private static void safeOdds() {
        BetsOnBets x = example();
        due("safeOdds(0)", x.safeOdds(0), 2);
        due("safeOdds(1)", x.safeOdds(1), -9);
        due("safeOdds(2)", x.safeOdds(2), 9);
        due("safeOdds(3)", x.safeOdds(3), -1);
        due("safeOdds(-1)", x.safeOdds(-1), -1);
        dueBet(x, 0, 0, 0, 0, 10, 2, 0, 1);
        due("mean(1)", x.mean(1), 0);
        BetsOnBets changed = Check.told("h50;", "bph0h010,001;bah0h010,201;");
        due("safeOdds(0) beside 20 or -10", changed.safeOdds(0), 0);
        changed.set(1, 0, 1);
        due("safeOdds(0) beside 2 or -1", changed.safeOdds(0), 0);
        changed.set(1, 1, 0);
        due("safeOdds(0) beside 0 or -1", changed.safeOdds(0), 1);
        due("safeOdds of one always WON", Check.told(WINS + "5,301;").safeOdds(0), 0);
        due("safeOdds of one VOID", Check.told("bpb0b05,301;").safeOdds(0), 9);
        due("a MEAN cut to 0", Check.told("h77;h13;", "boh0h11,001;").safeOdds(0), 9);
        due("a MEAN just below 0", Check.told("h77;h13;", "boh0h199,001;").safeOdds(0), 8);
    }

    private static void host() {
        due("host()", example().host(), 3);
        due("host() of none", new BetsOnBets().host(), 0);
        due("host(), the least of two", Check.told(LOSES + "5,001;" + LOSES + "5,032;").host(), 1);
        due("host(), the others below", Check.told(WINS + "5,201;").host(), 0);
        due("host() by the MEAN that is cut", Check.told("h77;h13;", "boh0h11,901;bnh0h11,032;").host(), 2);
        due("host(), cut alike", Check.told("h77;h13;", "boh0h11,910;").host(), 0);
    }

    private static void settling() {
        BetsOnBets x = example();
        due("settling(0), -10 25 -35 20", x.settling(0), 3);
        due("settling(1), 20 -25 -15 20", x.settling(1), 3);
        due("settling(3), 20 -25 25 -20", x.settling(3), 2);
        due("settling(4)", x.settling(4), -1);
        due("settling(-1)", x.settling(-1), -1);
        due("settling nothing", new BetsOnBets().settling(0), 0);
        due("settling one BET", Check.told(LOSES + "1,031;").settling(0), 1);
        due("settling three", Check.told(LOSES + "1,031;" + LOSES + "1,021;").settling(0), 2);
        due("settling one for all", Check.told(LOSES + "1,031;" + LOSES + "1,021;" + LOSES + "1,001;").settling(0), 3);
        due("settling two pairs", Check.told(LOSES + "1,001;" + LOSES + "7,023;").settling(0), 2);
        due("settling a chain", Check.told(LOSES + "5,001;" + LOSES + "5,012;" + LOSES + "5,023;").settling(0), 1);
        due("settling a round", Check.told(LOSES + "5,001;" + LOSES + "5,012;" + LOSES + "5,020;").settling(0), 0);
        due("settling -10 -20 20 10",
                Check.told(LOSES + "10,001;" + LOSES + "30,012;" + LOSES + "10,023;").settling(0), 2);
    }

    private static void cannotPay() {
        BetsOnBets x = Check.told("h50;", "bph0h050,001;", LOSES + "51,023;f3,0;");
        due("cannotPay(0), -50 and -51 of 50", x.cannotPay(0), 4);
        x.fund(0, 49);
        due("cannotPay(0), -50 of 49", x.cannotPay(0), 5);
        x.fund(2, 51);
        due("cannotPay(0), -51 of 51", x.cannotPay(0), 1);
        due("cannotPay(1)", x.cannotPay(1), 0);
        due("cannotPay(2)", x.cannotPay(2), -1);
        due("cannotPay(-1)", x.cannotPay(-1), -1);
        BetsOnBets poor = Check.told("f0,0;f1,0;f2,0;f3,0;", LOSES + "1,001;" + WINS + "1,123;");
        due("cannotPay() without FUNDS", poor.cannotPay(0), 9);
    }

    private static void rings() {
        due("rings() without", example().rings(), 0);
        due("a BET on itself", Check.told("bpb0b01,001;").rings(), 1);
        due("the second MARK of p does not count", Check.told("h1;", "bph0b01,001;").rings(), 0);
        due("the second MARK of a does not count", Check.told("h1;", "bah0b01,001;").rings(), 0);
        for (String kind : new String[] {"o", "e", "x", "n"}) {
            due("the second MARK of " + kind, Check.told("h1;", "b" + kind + "h0b01,001;").rings(), 1);
            due("the first MARK of " + kind, Check.told("h1;", "b" + kind + "b0h01,001;").rings(), 1);
        }
        due("the first MARK of a", Check.told("h1;", "bab0h01,001;").rings(), 1);
        due("HAPPENINGS are no BETS", Check.told("h1;h1;", "beh0h11,001;beh0h11,001;").rings(), 0);
        due("BETS that are not there", Check.told("beb1b51,001;").rings(), 0);
        BetsOnBets three = Check.told("bpb1b01,001;bab2b01,001;", "beb5b01,001;bpb0b01,001;");
        due("a ring of three, and one that leads in", three.rings(), 7);
        BetsOnBets six = Check.told("bpb3b01,001;bpb0b01,001;bpb4b01,001;", "bpb5b01,001;bpb1b01,001;bpb2b01,001;");
        due("a ring of six", six.rings(), 63);
        BetsOnBets two = Check.told("bpb1b01,001;bpb0b01,001;beb0b31,001;", "bpb4b01,001;bpb3b01,001;");
        due("two rings and one between", two.rings(), 27);
    }

    private static void row() {
        BetsOnBets x = new BetsOnBets();
        due("row(0)", x.row(0), 1);
        due("row(999)", x.row(999), 2);
        due("row(-1)", x.row(-1), -4);
        due("row(1000)", x.row(1000), -6);
        due("row(500)", x.row(500), 3);
        due("row(500)", x.row(500), 4);
        due("row(500)", x.row(500), -6);
        due("row(-1)", x.row(-1), -4);
        due("count(4)", x.count(4), 4);
        due("count(14)", x.count(14), 2);
        due("count(16)", x.count(16), 2);
    }

    private static void fitting() {
        BetsOnBets x = example();
        due("fitting(0) of no numbers", x.fitting(0), 15);
        due("fitting(1) of no numbers", x.fitting(1), 4);
        x.row(520);
        due("fitting(0) of 520", x.fitting(0), 10);
        due("fitting(1) of 520", x.fitting(1), 2);
        x.row(475);
        x.row(525);
        due("fitting(0) of 520, 475, 525", x.fitting(0), 8);
        due("fitting(1) of 520, 475, 525", x.fitting(1), 1);
        x.row(481);
        due("fitting(0) of one not so", x.fitting(0), 0);
        due("fitting(1) of one not so", x.fitting(1), 0);
        due("fitting(2)", x.fitting(2), -2);
        due("fitting(-1)", x.fitting(-1), -2);
        due("count(4)", x.count(4), 4);
        due("count(12)", x.count(12), 2);
    }

    private static void judge() {
        BetsOnBets x = example();
        due("judge(0) of no numbers", x.judge(0), -9);
        x.row(520);
        x.row(475);
        due("judge(4)", x.judge(4), -1);
        due("judge(-1)", x.judge(-1), -1);
        due("count(4)", x.count(4), 2);
        due("judge(1)", x.judge(1), -9);
        due("count(4)", x.count(4), 0);
        x.row(490);
        x.row(525);
        x.row(465);
        x.row(521);
        due("judge(2)", x.judge(2), 3);
        due("count(4)", x.count(4), 0);
        x.row(490);
        x.row(524);
        x.row(464);
        due("judge(0)", x.judge(0), 1);
        x.row(0);
        due("judge(0) of 0", x.judge(0), 0);
        due("row after judge", x.row(1), 1);
    }

    private static void seeds() {
        BetsOnBets x = Check.told("h50;h50;", "bph0h01,901;bph1h110,901;");
        due("seeds(1, 0, 0)", x.seeds(1, 0, 0), -11);
        due("seeds(2, 0, 0)", x.seeds(2, 0, 0), 78);
        due("seeds(3, 0, 0)", x.seeds(3, 0, 0), 77);
        due("seeds(4, 0, 0)", x.seeds(4, 0, 0), 166);
        due("seeds(4, least, 0)", x.seeds(4, LEAST, 0), 166);
        due("seeds(2, -1, 1)", x.seeds(2, -1, 1), -178);
        due("seeds(4, 0, 2)", x.seeds(4, 0, 2), 0);
        due("seeds(30, 0, 2)", x.seeds(30, 0, 2), 0);
        due("seeds(0, 0, 4)", x.seeds(0, 0, 4), FAR_NOBODY);
        due("seeds(1, 0, -1)", x.seeds(1, 0, -1), FAR_NOBODY);
        due("seeds(0, 0, 0)", x.seeds(0, 0, 0), FAR_BELOW);
        due("seeds(least, 0, 0)", x.seeds(LEAST, 0, 0), FAR_BELOW);
        due("seeds(31, 0, 0)", x.seeds(31, 0, 0), FAR_ROOM);
        due("seeds(most, 0, 0)", x.seeds(MOST, 0, 0), FAR_ROOM);
        due("a draw of 63 below 64", Check.told("h64;", "bph0h01,901;").seeds(1, 0, 0), 9);
        due("a draw of 63 not below 63", Check.told("h63;", "bph0h01,901;").seeds(1, 0, 0), -1);
        due("30 RACES without HAPPENINGS", Check.told(LOSES + "3,901;").seeds(30, 5, 1), 90);
    }

    private static void imageAndOn() {
        BetsOnBets x = example();
        due("on() without an image", x.on(), -3);
        due("count(13)", x.count(13), 1);
        x.fund(1, 11);
        due("image()", x.image(), 3);
        x.fund(1, 12);
        x.set(0, 0, 99);
        x.set(0, 1, 9);
        Check.inn(x, "h70;bpb3b31,123;");
        x.row(7);
        Check.letters(x, "h9");
        due("voids()", x.voids(), 8);
        due("on()", x.on(), 3);
        due("count(0)", x.count(0), 2);
        due("count(1)", x.count(1), 3);
        due("count(2)", x.count(2), 4);
        due("count(3)", x.count(3), 35);
        due("count(4)", x.count(4), 1);
        due("count(5)", x.count(5), 2);
        due("count(13)", x.count(13), 1);
        due("letter(59)", x.letter(59), 3);
        due("voids()", x.voids(), 0);
        due("fund(1, 13)", x.fund(1, 13), 11);
        duePurses(x, 3, 20, -25, 25, -20);
        due("inn()", x.inn(), 1);
        due("chance(2)", x.chance(2), 9);
        x.set(1, 0, 77);
        due("on() again", x.on(), 3);
        due("count(0) again", x.count(0), 2);
        dueBet(x, 1, 1, 10, 1, 5, 3, 1, 2);
        due("fund(1, 1)", x.fund(1, 1), 11);
        Check.inn(x, LOSES + "4,001;");
        due("a later image()", x.image(), 4);
        x.set(3, 0, 9);
        due("on() from the later", x.on(), 4);
        due("bet(3, 3)", x.bet(3, 3), 4);
        due("purse(0, 0)", x.purse(0, 0), -14);
        BetsOnBets empty = new BetsOnBets();
        due("image() of none", empty.image(), 0);
        Check.inn(empty, "h5;bab0b01,001;");
        due("on() from none", empty.on(), 0);
        due("ways(0, 0)", empty.ways(0, 0), 1);
        due("ways(1, 0)", empty.ways(1, 0), -1);
    }

    private static void count() {
        BetsOnBets x = example();
        due("count(0)", x.count(0), 2);
        due("count(1)", x.count(1), 3);
        due("count(2)", x.count(2), 4);
        due("count(3)", x.count(3), 35);
        due("count(4)", x.count(4), 0);
        due("count(5)", x.count(5), 0);
        for (int what : new int[] {LEAST, -16, -1, 6, 7, 8, 9, 10, 17, MOST}) {
            due("count(" + what + ")", x.count(what), -9);
        }
        for (int what = 11; what <= 16; what++) {
            due("count(" + what + ")", x.count(what), 0);
        }
        x.chance(2);
        x.purse(0, 4);
        x.bet(0, 7);
        x.worst(0, 2);
        x.fitting(9);
        x.on();
        x.set(0, 0, 0);
        x.seeds(0, 0, 0);
        x.letter(-1);
        x.row(-1);
        x.fund(0, 100);
        x.seeds(31, 0, 0);
        x.letter(256);
        x.row(1000);
        x.set(0, 1, 10);
        due("count(11)", x.count(11), 2);
        due("count(12)", x.count(12), 3);
        due("count(13)", x.count(13), 1);
        due("count(14)", x.count(14), 4);
        due("count(15)", x.count(15), 0);
        due("count(16)", x.count(16), 5);
        due("answers of -9 are no REFUSALS", x.sparing(3) + x.judge(0) + x.safeOdds(1), -27);
        due("count(16)", x.count(16), 5);
    }
}
