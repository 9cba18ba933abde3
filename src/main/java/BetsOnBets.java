/** Bets on happenings and on other bets. DOC.md says what each call answers; its words stand in capitals here. */
public final class BetsOnBets {
    private static final int MOST_HAPPENINGS = 4;
    private static final int MOST_ENDS = 16;
    private static final int MOST_BETS = 6;
    private static final int PEOPLE = 4;
    private static final int GROUPS = 16;
    private static final int HUNDRED = 100;
    private static final int MOST_STAKE = 99;
    private static final int MOST_ODDS = 9;
    private static final int MOST_FUND = 99;
    private static final int FIRST_FUND = 50;
    private static final int MOST_LETTERS = 80;
    private static final int MOST_LETTER = 255;
    private static final int MOST_SEEN = 999;
    private static final int SEEN_AND = 500;
    private static final int MOST_RACES = 30;

    private static final int KIND = 0;
    private static final int FIRST_MARK = 1;
    private static final int SECOND_MARK = 2;
    private static final int STAKE = 3;
    private static final int ODDS = 4;
    private static final int BETTOR = 5;
    private static final int HOLDER = 6;
    private static final int NUMBERS = 7;
    private static final int BET_MARK = 10;

    private static final int LOST = 0;
    private static final int WON = 1;
    private static final int VOID = 2;

    private static final int NOBODY = -1;
    private static final int OTHER = -2;
    private static final int STATE = -3;
    private static final int BELOW = -4;
    private static final int ROOM = -6;
    private static final int NONE = -9;
    private static final int FAR = 1000000000;
    private static final int FAULT_OF_LETTERS = -1000;
    private static final int FAULT_OF_SENSE = -2000;

    private final Reader reader = new Reader();
    private final Row seen = new Row(PEOPLE);
    private final Book told = new Book();
    private final Book trial = new Book();
    private final Book kept = new Book();
    private final Ways allWays = new Ways();
    private final int[] refusals = new int[1 - ROOM];
    private final int[] groups = new int[GROUPS];
    private final int[] reached = new int[MOST_BETS];
    private boolean isKept = false;

    public BetsOnBets() {
    }

    public int letter(int c) {
        return taken(reader.letters, c, MOST_LETTER);
    }

    public int inn() {
        int fault = reader.faultPlace();
        int answer = fault >= 0 ? FAULT_OF_LETTERS - fault : innTold();
        reader.letters.clear();
        return answer;
    }

    public int chance(int happening) {
        if (happening < 0 || happening >= told.happenings) {
            return refused(NOBODY);
        }
        return told.chanceOf(happening);
    }

    public int bet(int bet, int what) {
        if (!told.hasBet(bet)) {
            return refused(NOBODY);
        }
        if (what < KIND || what > HOLDER) {
            return refused(OTHER);
        }
        return told.numberOf(bet, what);
    }

    public int set(int bet, int what, int v) {
        if (!told.hasBet(bet)) {
            return refused(NOBODY);
        }
        if (what != 0 && what != 1) {
            return refused(OTHER);
        }
        boolean isStake = what == 0;
        if (v < (isStake ? 1 : 0)) {
            return refused(BELOW);
        }
        if (v > (isStake ? MOST_STAKE : MOST_ODDS)) {
            return refused(ROOM);
        }
        int number = isStake ? STAKE : ODDS;
        int was = told.numberOf(bet, number);
        told.change(bet, number, v);
        return was;
    }

    public int fund(int person, int v) {
        if (!isPerson(person)) {
            return refused(NOBODY);
        }
        if (v < 0) {
            return refused(BELOW);
        }
        if (v > MOST_FUND) {
            return refused(ROOM);
        }
        int was = told.fundOf(person);
        told.changeFund(person, v);
        return was;
    }

    public int ways(int end, int what) {
        if (!told.hasEnd(end)) {
            return refused(NOBODY);
        }
        if (what != 0 && what != 1) {
            return refused(OTHER);
        }
        return what == 0 ? allWays.howMany(end) : allWays.firstOf(end);
    }

    public int standing(int bet, int end) {
        if (!told.hasBet(bet) || !told.hasEnd(end)) {
            return refused(NOBODY);
        }
        return allWays.standingOf(bet, end);
    }

    public int purse(int person, int end) {
        if (!isPerson(person) || !told.hasEnd(end)) {
            return refusedFar(NOBODY);
        }
        return purseOf(told, person, end);
    }

    public int mean(int person) {
        return isPerson(person) ? meanOf(told, person) : refusedFar(NOBODY);
    }

    public int worst(int person, int what) {
        return extreme(person, what, -1);
    }

    public int best(int person, int what) {
        return extreme(person, what, 1);
    }

    public int sure(int person) {
        if (!isPerson(person)) {
            return refused(NOBODY);
        }
        boolean neverBelow = purseOf(told, person, extremeEnd(told, person, -1)) >= 0;
        boolean onceAbove = purseOf(told, person, extremeEnd(told, person, 1)) > 0;
        return neverBelow && onceAbove ? 1 : 0;
    }

    public int likely(int person) {
        if (!isPerson(person)) {
            return refused(NOBODY);
        }
        int ends = told.ends();
        long above = 0;
        for (int end = 0; end < ends; end++) {
            if (purseOf(told, person, end) > 0) {
                above += told.weightOf(end);
            }
        }
        return inHundredths(told, above);
    }

    public int voids() {
        int ends = told.ends();
        int bits = 0;
        for (int end = 0; end < ends; end++) {
            bits |= allWays.voidIn(end);
        }
        return bits;
    }

    public int sparing(int person) {
        if (!isPerson(person)) {
            return refused(NOBODY);
        }
        trial.takeFrom(told);
        int greatest = worstOf(told, person);
        int answer = NONE;
        for (int bet = 0; bet < told.bets; bet++) {
            if (told.numberOf(bet, BETTOR) == person) {
                for (int stake = 0; stake <= MOST_STAKE; stake++) {
                    trial.change(bet, STAKE, stake);
                    int least = worstOf(trial, person);
                    if (least > greatest) {
                        greatest = least;
                        answer = HUNDRED * bet + stake;
                    }
                }
                trial.change(bet, STAKE, told.numberOf(bet, STAKE));
            }
        }
        return answer;
    }

    public int safeOdds(int bet) {
        if (!told.hasBet(bet)) {
            return refused(NOBODY);
        }
        trial.takeFrom(told);
        int holder = told.numberOf(bet, HOLDER);
        for (int odds = MOST_ODDS; odds >= 0; odds--) {
            trial.change(bet, ODDS, odds);
            if (meanOf(trial, holder) >= 0) {
                return odds;
            }
        }
        return NONE;
    }

    public int host() {
        int host = 0;
        for (int person = 1; person < PEOPLE; person++) {
            if (meanOf(told, person) > meanOf(told, host)) {
                host = person;
            }
        }
        return host;
    }

    public int settling(int end) {
        return told.hasEnd(end) ? PEOPLE - mostGroups(end) : refused(NOBODY);
    }

    public int cannotPay(int end) {
        if (!told.hasEnd(end)) {
            return refused(NOBODY);
        }
        int bits = 0;
        for (int person = 0; person < PEOPLE; person++) {
            if (purseOf(told, person, end) + told.fundOf(person) < 0) {
                bits |= 1 << person;
            }
        }
        return bits;
    }

    public int rings() {
        for (int bet = 0; bet < told.bets; bet++) {
            put(reached, bet, allWays.lookedAt(told, bet));
        }
        for (int over = 0; over < told.bets; over++) {
            for (int bet = 0; bet < told.bets; bet++) {
                if (has(at(reached, bet), over)) {
                    put(reached, bet, at(reached, bet) | at(reached, over));
                }
            }
        }
        int bits = 0;
        for (int bet = 0; bet < told.bets; bet++) {
            bits |= at(reached, bet) & 1 << bet;
        }
        return bits;
    }

    public int row(int v) {
        return taken(seen, v, MOST_SEEN);
    }

    public int fitting(int what) {
        if (what != 0 && what != 1) {
            return refused(OTHER);
        }
        int ends = told.ends();
        int bits = 0;
        for (int end = 0; end < ends; end++) {
            if (firstUnlike(end) == NONE) {
                bits |= 1 << end;
            }
        }
        return what == 0 ? bits : Integer.bitCount(bits);
    }

    public int judge(int end) {
        if (!told.hasEnd(end)) {
            return refused(NOBODY);
        }
        int answer = firstUnlike(end);
        seen.clear();
        return answer;
    }

    public int seeds(int n, int z, int person) {
        if (!isPerson(person)) {
            return refusedFar(NOBODY);
        }
        if (n < 1) {
            return refusedFar(BELOW);
        }
        if (n > MOST_RACES) {
            return refusedFar(ROOM);
        }
        int seed = z;
        int together = 0;
        for (int race = 0; race < n; race++) {
            int end = 0;
            for (int happening = 0; happening < told.happenings; happening++) {
                seed = seed * 1664525 + 1013904223;
                if (drawBy(seed) < told.chanceOf(happening)) {
                    end |= 1 << happening;
                }
            }
            together += purseOf(told, person, end);
        }
        return together;
    }

    public int image() {
        kept.takeFrom(told);
        isKept = true;
        return kept.bets;
    }

    public int on() {
        if (!isKept) {
            return refused(STATE);
        }
        told.takeFrom(kept);
        allWays.find(told);
        return told.bets;
    }

    public int count(int what) {
        switch (what) {
            case 0:
                return told.happenings;
            case 1:
                return told.bets;
            case 2:
                return told.ends();
            case 3:
                return told.allStakes();
            case 4:
                return seen.size;
            case 5:
                return reader.letters.size;
            default:
                return what >= 10 - NOBODY && what <= 10 - ROOM ? at(refusals, what - 10) : NONE;
        }
    }

    /** All comes into the trial first, so that a FAULT further on leaves what was told as it was. */
    private int innTold() {
        trial.takeFrom(told);
        reader.begin();
        int statements = 0;
        while (reader.goesOn() && statements < MOST_LETTERS) {
            int start = reader.place;
            int which = reader.readStatement();
            if (!trial.comes(which, reader.numbers)) {
                return FAULT_OF_SENSE - start;
            }
            statements++;
        }
        told.takeFrom(trial);
        allWays.find(told);
        return statements;
    }

    private int taken(Row row, int v, int most) {
        if (v < 0) {
            return refused(BELOW);
        }
        if (v > most || row.isFull()) {
            return refused(ROOM);
        }
        row.add(v);
        return row.size;
    }

    private int extreme(int person, int what, int sign) {
        if (!isPerson(person)) {
            return refusedFar(NOBODY);
        }
        if (what != 0 && what != 1) {
            return refusedFar(OTHER);
        }
        int end = extremeEnd(told, person, sign);
        return what == 0 ? purseOf(told, person, end) : end;
    }

    /** The books that are tried differ in STAKE or ODDS alone, so the WAYS of what is told are theirs too. */
    private int purseOf(Book book, int person, int end) {
        int purse = 0;
        for (int bet = 0; bet < book.bets; bet++) {
            int gain = bettorsGain(book, bet, end);
            if (book.numberOf(bet, BETTOR) == person) {
                purse += gain;
            }
            if (book.numberOf(bet, HOLDER) == person) {
                purse -= gain;
            }
        }
        return purse;
    }

    private int bettorsGain(Book book, int bet, int end) {
        int stake = book.numberOf(bet, STAKE);
        switch (allWays.standingOf(bet, end)) {
            case WON:
                return stake * book.numberOf(bet, ODDS);
            case LOST:
                return -stake;
            default:
                return 0;
        }
    }

    private int meanOf(Book book, int person) {
        int ends = book.ends();
        long sum = 0;
        for (int end = 0; end < ends; end++) {
            sum += book.weightOf(end) * purseOf(book, person, end);
        }
        return inHundredths(book, sum);
    }

    private static int inHundredths(Book book, long weighted) {
        long whole = book.wholeWeight();
        return whole > 0 ? (int) (weighted * HUNDRED / whole) : 0;
    }

    /** The first END with the greatest PURSE (sign 1) or the least (sign -1). */
    private int extremeEnd(Book book, int person, int sign) {
        int ends = book.ends();
        int found = 0;
        int greatest = sign * purseOf(book, person, 0);
        for (int end = 1; end < ends; end++) {
            int signed = sign * purseOf(book, person, end);
            if (signed > greatest) {
                greatest = signed;
                found = end;
            }
        }
        return found;
    }

    private int worstOf(Book book, int person) {
        return purseOf(book, person, extremeEnd(book, person, -1));
    }

    /** A group whose PURSES are nothing together is settled by one payment less than it has PEOPLE. */
    private int mostGroups(int end) {
        for (int people = 1; people < GROUPS; people++) {
            int most = 0;
            int together = 0;
            for (int person = 0; person < PEOPLE; person++) {
                if (has(people, person)) {
                    together += purseOf(told, person, end);
                    most = Math.max(most, at(groups, people - (1 << person)));
                }
            }
            put(groups, people, together == 0 ? most + 1 : most);
        }
        return at(groups, GROUPS - 1);
    }

    private int firstUnlike(int end) {
        for (int person = 0; person < seen.size; person++) {
            if (seen.get(person) != purseOf(told, person, end) + SEEN_AND) {
                return person;
            }
        }
        return NONE;
    }

    private static int drawBy(int seed) {
        return (seed & 0x7fffffff) / 256 % HUNDRED;
    }

    private int refused(int number) {
        put(refusals, -number, at(refusals, -number) + 1);
        return number;
    }

    private int refusedFar(int number) {
        return FAR - refused(number);
    }

    private static boolean isPerson(int person) {
        return person >= 0 && person < PEOPLE;
    }

    private static boolean has(int bits, int bit) {
        return (bits >> bit & 1) == 1;
    }

    private static int at(int[] row, int i) {
        return row != null && i >= 0 && i < row.length ? row[i] : 0;
    }

    private static void put(int[] row, int i, int v) {
        if (row != null && i >= 0 && i < row.length) {
            row[i] = v;
        }
    }

    private static void copy(int[] from, int[] to) {
        if (from == null || to == null) {
            return;
        }
        for (int i = 0; i < to.length && i < from.length; i++) {
            to[i] = from[i];
        }
    }

    /** Numbers one behind the other, as many as there is room for. */
    private static final class Row {
        private final int[] held;
        private int size = 0;

        Row(int room) {
            held = new int[Math.max(room, 0)];
        }

        boolean isFull() {
            return size >= held.length;
        }

        void add(int v) {
            if (!isFull()) {
                put(held, size, v);
                size++;
            }
        }

        int get(int i) {
            return i >= 0 && i < held.length ? held[i] : 0;
        }

        void clear() {
            size = 0;
        }
    }

    /** The letters, read STATEMENT by STATEMENT; once stuck, it reads no more, so that its place is the FAULT's. */
    private static final class Reader {
        private static final String DIGITS = "0123456789";
        private static final int HAPPENING = 0;
        private static final int BET = 1;
        private final Row letters = new Row(MOST_LETTERS);
        private final int[] numbers = new int[NUMBERS];
        private int place = 0;
        private boolean isStuck = false;

        void begin() {
            place = 0;
            isStuck = false;
        }

        boolean goesOn() {
            return !isStuck && place < letters.size;
        }

        int faultPlace() {
            begin();
            readStatement();
            for (int n = 1; n < MOST_LETTERS && goesOn(); n++) {
                readStatement();
            }
            return isStuck ? place : NONE;
        }

        int readStatement() {
            int which = oneOf("hbf");
            if (which == HAPPENING) {
                put(numbers, 0, oneOrTwoDigits());
            } else if (which == BET) {
                readBet();
            } else {
                put(numbers, 0, oneOf(DIGITS));
                oneOf(",");
                put(numbers, 1, oneOrTwoDigits());
            }
            oneOf(";");
            return which;
        }

        private void readBet() {
            put(numbers, KIND, oneOf("paoexn"));
            put(numbers, FIRST_MARK, readMark());
            put(numbers, SECOND_MARK, readMark());
            put(numbers, STAKE, oneOrTwoDigits());
            oneOf(",");
            put(numbers, ODDS, oneOf(DIGITS));
            put(numbers, BETTOR, oneOf(DIGITS));
            put(numbers, HOLDER, oneOf(DIGITS));
        }

        private int readMark() {
            int among = oneOf("hb") * BET_MARK;
            return among + oneOf(DIGITS);
        }

        private int oneOrTwoDigits() {
            int number = oneOf(DIGITS);
            return nextIn(DIGITS) >= 0 ? number * 10 + oneOf(DIGITS) : number;
        }

        private int oneOf(String signs) {
            int which = nextIn(signs);
            if (which < 0) {
                isStuck = true;
                return 0;
            }
            place++;
            return which;
        }

        private int nextIn(String signs) {
            return goesOn() ? signs.indexOf((char) letters.get(place)) : -1;
        }
    }

    /** What is told: all that an IMAGE keeps. */
    private static final class Book {
        private final int[] chances = new int[MOST_HAPPENINGS];
        private final int[] numbers = new int[MOST_BETS * NUMBERS];
        private final int[] funds = new int[PEOPLE];
        private int happenings = 0;
        private int bets = 0;

        Book() {
            for (int person = 0; person < PEOPLE; person++) {
                put(funds, person, FIRST_FUND);
            }
        }

        void takeFrom(Book other) {
            copy(other.chances, chances);
            copy(other.numbers, numbers);
            copy(other.funds, funds);
            happenings = other.happenings;
            bets = other.bets;
        }

        /** Whether the STATEMENT is as it must be; then it has come. */
        boolean comes(int which, int[] said) {
            if (which == Reader.HAPPENING) {
                return comesHappening(at(said, 0));
            }
            return which == Reader.BET ? comesBet(said) : comesFund(at(said, 0), at(said, 1));
        }

        private boolean comesHappening(int chance) {
            if (chance < 1 || happenings >= MOST_HAPPENINGS) {
                return false;
            }
            put(chances, happenings, chance);
            happenings++;
            return true;
        }

        private boolean comesBet(int[] said) {
            if (bets >= MOST_BETS || !isRight(said)) {
                return false;
            }
            bets++;
            for (int number = 0; number < NUMBERS; number++) {
                change(bets - 1, number, at(said, number));
            }
            return true;
        }

        private boolean comesFund(int person, int v) {
            if (!isPerson(person)) {
                return false;
            }
            changeFund(person, v);
            return true;
        }

        private boolean isRight(int[] said) {
            int bettor = at(said, BETTOR);
            int holder = at(said, HOLDER);
            return isMark(at(said, FIRST_MARK)) && isMark(at(said, SECOND_MARK)) && at(said, STAKE) >= 1
                    && isPerson(bettor) && isPerson(holder) && bettor != holder;
        }

        private boolean isMark(int mark) {
            return mark >= BET_MARK ? mark - BET_MARK < MOST_BETS : mark < happenings;
        }

        boolean hasBet(int bet) {
            return bet >= 0 && bet < bets;
        }

        boolean hasEnd(int end) {
            return end >= 0 && end < ends();
        }

        int ends() {
            return 1 << happenings;
        }

        int chanceOf(int happening) {
            return at(chances, happening);
        }

        int numberOf(int bet, int what) {
            return at(numbers, bet * NUMBERS + what);
        }

        void change(int bet, int what, int v) {
            put(numbers, bet * NUMBERS + what, v);
        }

        int fundOf(int person) {
            return at(funds, person);
        }

        void changeFund(int person, int v) {
            put(funds, person, v);
        }

        int allStakes() {
            int sum = 0;
            for (int bet = 0; bet < bets; bet++) {
                sum += numberOf(bet, STAKE);
            }
            return sum;
        }

        long weightOf(int end) {
            long weight = 1;
            for (int happening = 0; happening < happenings; happening++) {
                int chance = chanceOf(happening);
                weight *= has(end, happening) ? chance : HUNDRED - chance;
            }
            return weight;
        }

        long wholeWeight() {
            long whole = 1;
            for (int happening = 0; happening < happenings; happening++) {
                whole *= HUNDRED;
            }
            return whole;
        }
    }

    /** The WAYS of all ENDS, found once for each INN and each ON, for most calls ask for them again and again. */
    private static final class Ways {
        private final Bet[] kinds = {
            new Plain(), new Against(), new Both(), new Either(), new One(), new Neither()
        };
        private final int[] many = new int[MOST_ENDS];
        private final int[] firsts = new int[MOST_ENDS];
        private final int[] wons = new int[MOST_ENDS];
        private final int[] open = new int[MOST_ENDS];

        /** Without BETS the one END has one WAY: nothing is WON. */
        Ways() {
            put(many, 0, 1);
        }

        void find(Book book) {
            int ends = book.ends();
            for (int end = 0; end < ends; end++) {
                findOf(book, end);
            }
        }

        private void findOf(Book book, int end) {
            int every = (1 << book.bets) - 1;
            int found = 0;
            int first = NONE;
            int inAll = every;
            int inSome = 0;
            for (int way = 0; way <= every; way++) {
                if (isWay(book, end, way)) {
                    first = found == 0 ? way : first;
                    found++;
                    inAll &= way;
                    inSome |= way;
                }
            }
            put(many, end, found);
            put(firsts, end, first);
            put(wons, end, found > 0 ? inAll : 0);
            put(open, end, found > 0 ? inSome - inAll : every);
        }

        private boolean isWay(Book book, int end, int way) {
            for (int bet = 0; bet < book.bets; bet++) {
                Bet kind = kindOf(book.numberOf(bet, KIND));
                boolean first = isSo(book.numberOf(bet, FIRST_MARK), end, way);
                boolean second = isSo(book.numberOf(bet, SECOND_MARK), end, way);
                if (kind == null || kind.isWonBy(first, second) != has(way, bet)) {
                    return false;
                }
            }
            return true;
        }

        /** A BET that is not there has no bit in any WAY, and so is not so. */
        private static boolean isSo(int mark, int end, int way) {
            return mark >= BET_MARK ? has(way, mark - BET_MARK) : has(end, mark);
        }

        private Bet kindOf(int kind) {
            return kind >= 0 && kind < kinds.length ? kinds[kind] : null;
        }

        int howMany(int end) {
            return at(many, end);
        }

        int firstOf(int end) {
            return at(firsts, end);
        }

        int voidIn(int end) {
            return at(open, end);
        }

        int standingOf(int bet, int end) {
            if (has(at(wons, end), bet)) {
                return WON;
            }
            return has(at(open, end), bet) ? VOID : LOST;
        }

        /** The BETS (bits) that are MARKS by which the BET is WON or LOST. */
        int lookedAt(Book book, int bet) {
            Bet kind = kindOf(book.numberOf(bet, KIND));
            int bits = betBit(book, book.numberOf(bet, FIRST_MARK));
            if (kind != null && kind.looksAtBoth()) {
                bits |= betBit(book, book.numberOf(bet, SECOND_MARK));
            }
            return bits;
        }

        private static int betBit(Book book, int mark) {
            return book.hasBet(mark - BET_MARK) ? 1 << mark - BET_MARK : 0;
        }
    }

    /** How a BET is WON by its MARKS: one for each KIND, not for each BET. */
    private abstract static class Bet {
        abstract boolean isWonBy(boolean first, boolean second);

        boolean looksAtBoth() {
            return true;
        }
    }

    private static class Plain extends Bet {
        boolean isWonBy(boolean first, boolean second) {
            return first;
        }

        boolean looksAtBoth() {
            return false;
        }
    }

    private static final class Against extends Plain {
        boolean isWonBy(boolean first, boolean second) {
            return !first;
        }
    }

    private static final class Both extends Plain {
        boolean isWonBy(boolean first, boolean second) {
            return first && second;
        }

        boolean looksAtBoth() {
            return true;
        }
    }

    private static class Either extends Bet {
        boolean isWonBy(boolean first, boolean second) {
            return first || second;
        }
    }

    private static final class One extends Either {
        boolean isWonBy(boolean first, boolean second) {
            return first != second;
        }
    }

    private static final class Neither extends Either {
        boolean isWonBy(boolean first, boolean second) {
            return !first && !second;
        }
    }
}
