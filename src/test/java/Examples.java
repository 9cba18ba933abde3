/** Objects and texts that several tests begin with. */
final class Examples {
    /** ONE of the same twice is never so: LOST in every END, whichever BETS are there. */
    static final String LOSES = "bxb0b0";

    private Examples() {
    }

    /**
     * PURSES of 0 .. 3: END 0 -10, 25, -35, 20; END 1 20, -25, -15, 20; END 2 as END 0; END 3 20, -25, 25, -20.
     * The ENDS come with 40, 40, 10 and 10 of 100.
     */
    static BetsOnBets four() {
        return Check.told("h50;h20;", "bph0h010,201;bab0h15,312;boh1b020,123;");
    }

    /** Six BETS of 99 at 9 of 0 with 1 on HAPPENING 0: the greatest and the least PURSES that there are. */
    static BetsOnBets six(String happening) {
        String three = "bph0h099,901;".repeat(3);
        return Check.told(happening + ";", three, three);
    }

    /** Of each BET the STAKE goes from PERSON 0 to PERSON 1 in the one END. */
    static BetsOnBets lost(int... stakes) {
        BetsOnBets x = new BetsOnBets();
        for (int stake : stakes) {
            due(Check.inn(x, LOSES + stake + ",001;"));
        }
        return x;
    }

    private static void due(int statements) {
        if (statements != 1) {
            throw new IllegalStateException("no INN: " + statements);
        }
    }

    /** Whether HAPPENING 0 comes with this CHANCE in the first RACE with seed z. */
    static boolean comes(int chance, int z) {
        return Check.told("h" + chance + ";", "bph0h01,901;").seeds(1, z, 0) == 9;
    }
}
