import java.math.BigInteger;
import java.util.ArrayList;
import java.util.List;
import java.util.regex.Matcher;
import java.util.regex.Pattern;

/** The document once more, written without thrift and by other means than the class: what it is measured against. */
final class Model {
    private static final Pattern STATEMENT =
            Pattern.compile("h\\d\\d?;|b[paoexn](?:[hb]\\d){2}\\d\\d?,\\d\\d\\d;|f\\d,\\d\\d?;");
    private static final Pattern INN = Pattern.compile("(?:" + STATEMENT.pattern() + ")+");
    private static final BigInteger HUNDRED = BigInteger.valueOf(100);

    record Wager(char kind, int first, int second, int stake, int odds, int bettor, int holder) {
        Wager with(int newStake, int newOdds) {
            return new Wager(kind, first, second, newStake, newOdds, bettor, holder);
        }
    }

    record State(List<Integer> chances, List<Wager> wagers, List<Integer> funds) {
        State copy() {
            return new State(new ArrayList<>(chances), new ArrayList<>(wagers), new ArrayList<>(funds));
        }
    }

    private State state = new State(new ArrayList<>(), new ArrayList<>(), new ArrayList<>(List.of(50, 50, 50, 50)));
    private State image = null;
    private String text = "";
    private final List<Integer> row = new ArrayList<>();
    private final int[] refusals = new int[7];

    private int no(int number) {
        refusals[-number]++;
        return number;
    }

    private int farNo(int number) {
        return 1000000000 - no(number);
    }

    private boolean noEnd(int end) {
        return end < 0 || end >= ends();
    }

    private boolean noBet(int bet) {
        return bet < 0 || bet >= state.wagers.size();
    }

    private static boolean noPerson(int person) {
        return person < 0 || person > 3;
    }

    private int ends() {
        return (int) Math.pow(2, state.chances.size());
    }

    int letter(int c) {
        if (c < 0) {
            return no(-4);
        }
        if (c > 255 || text.length() == 80) {
            return no(-6);
        }
        text += (char) c;
        return text.length();
    }

    int inn() {
        String all = text;
        text = "";
        for (int i = 0; i < all.length(); i++) {
            Matcher ahead = INN.matcher(all.substring(0, i + 1));
            if (!ahead.matches() && !ahead.hitEnd()) {
                return -1000 - i;
            }
        }
        if (!INN.matcher(all).matches()) {
            return -1000 - all.length();
        }
        State next = state.copy();
        int statements = 0;
        for (Matcher m = STATEMENT.matcher(all); m.find(); statements++) {
            if (!comes(next, m.group())) {
                return -2000 - m.start();
            }
        }
        state = next;
        return statements;
    }

    private static boolean comes(State next, String said) {
        String rest = said.substring(1, said.length() - 1);
        if (said.charAt(0) == 'h') {
            next.chances.add(Integer.valueOf(rest));
            return next.chances.size() <= 4 && Integer.parseInt(rest) >= 1;
        }
        String[] halves = rest.split(",");
        if (said.charAt(0) == 'f') {
            int person = Integer.parseInt(halves[0]);
            if (person > 3) {
                return false;
            }
            next.funds.set(person, Integer.valueOf(halves[1]));
            return true;
        }
        int first = mark(halves[0].substring(1, 3));
        int second = mark(halves[0].substring(3, 5));
        int last = Integer.parseInt(halves[1]);
        Wager wager = new Wager(rest.charAt(0), first, second, Integer.parseInt(halves[0].substring(5)), last / 100,
                last / 10 % 10, last % 10);
        next.wagers.add(wager);
        return next.wagers.size() <= 6 && wager.stake >= 1 && wager.bettor <= 3 && wager.holder <= 3
                && wager.bettor != wager.holder && markIsThere(next, first) && markIsThere(next, second);
    }

    private static int mark(String said) {
        return said.charAt(1) - '0' + (said.charAt(0) == 'b' ? 10 : 0);
    }

    private static boolean markIsThere(State next, int mark) {
        return mark >= 10 ? mark <= 15 : mark < next.chances.size();
    }

    int chance(int happening) {
        return happening < 0 || happening >= state.chances.size() ? no(-1) : state.chances.get(happening);
    }

    int bet(int bet, int what) {
        if (noBet(bet)) {
            return no(-1);
        }
        Wager w = state.wagers.get(bet);
        return switch (what) {
            case 0 -> "paoexn".indexOf(w.kind);
            case 1 -> w.first;
            case 2 -> w.second;
            case 3 -> w.stake;
            case 4 -> w.odds;
            case 5 -> w.bettor;
            case 6 -> w.holder;
            default -> no(-2);
        };
    }

    int set(int bet, int what, int v) {
        if (noBet(bet)) {
            return no(-1);
        }
        if (what < 0 || what > 1) {
            return no(-2);
        }
        if (v < 1 - what) {
            return no(-4);
        }
        if (v > (what == 0 ? 99 : 9)) {
            return no(-6);
        }
        Wager w = state.wagers.get(bet);
        state.wagers.set(bet, what == 0 ? w.with(v, w.odds) : w.with(w.stake, v));
        return what == 0 ? w.stake : w.odds;
    }

    int fund(int person, int v) {
        if (noPerson(person)) {
            return no(-1);
        }
        if (v < 0) {
            return no(-4);
        }
        return v > 99 ? no(-6) : state.funds.set(person, v);
    }

    private static boolean markIsSo(int mark, int end, int way) {
        return mark < 10 ? (end & 1 << mark) != 0 : (way & 1 << mark - 10) != 0;
    }

    private static boolean isWon(Wager w, int end, int way) {
        int so = (markIsSo(w.first, end, way) ? 1 : 0) + (markIsSo(w.second, end, way) ? 2 : 0);
        return switch (w.kind) {
            case 'p' -> so % 2 == 1;
            case 'a' -> so % 2 == 0;
            case 'o' -> so == 3;
            case 'e' -> so != 0;
            case 'x' -> so == 1 || so == 2;
            default -> so == 0;
        };
    }

    private List<Integer> waysOf(int end) {
        List<Integer> ways = new ArrayList<>();
        for (int way = 0; way < 1 << state.wagers.size(); way++) {
            int made = 0;
            for (int bet = 0; bet < state.wagers.size(); bet++) {
                made |= isWon(state.wagers.get(bet), end, way) ? 1 << bet : 0;
            }
            if (made == way) {
                ways.add(way);
            }
        }
        return ways;
    }

    int ways(int end, int what) {
        if (noEnd(end)) {
            return no(-1);
        }
        if (what < 0 || what > 1) {
            return no(-2);
        }
        List<Integer> ways = waysOf(end);
        return what == 0 ? ways.size() : ways.isEmpty() ? -9 : ways.get(0);
    }

    private int standingOf(int bet, List<Integer> ways) {
        long in = ways.stream().filter(way -> (way >> bet & 1) == 1).count();
        return ways.isEmpty() || in > 0 && in < ways.size() ? 2 : in == 0 ? 0 : 1;
    }

    int standing(int bet, int end) {
        return noBet(bet) || noEnd(end) ? no(-1) : standingOf(bet, waysOf(end));
    }

    private int[][] standings() {
        int[][] all = new int[ends()][state.wagers.size()];
        for (int end = 0; end < ends(); end++) {
            List<Integer> ways = waysOf(end);
            for (int bet = 0; bet < state.wagers.size(); bet++) {
                all[end][bet] = standingOf(bet, ways);
            }
        }
        return all;
    }

    /** PURSES of all PEOPLE by END and PERSON, of these BETS with the STANDINGS told. */
    private static int[][] purses(List<Wager> wagers, int[][] standings) {
        int[][] all = new int[standings.length][4];
        for (int end = 0; end < standings.length; end++) {
            for (int bet = 0; bet < wagers.size(); bet++) {
                Wager w = wagers.get(bet);
                int toBettor = new int[] {-w.stake, w.stake * w.odds, 0}[standings[end][bet]];
                all[end][w.bettor] += toBettor;
                all[end][w.holder] -= toBettor;
            }
        }
        return all;
    }

    private int[][] purses() {
        return purses(state.wagers, standings());
    }

    int purse(int person, int end) {
        return noPerson(person) || noEnd(end) ? farNo(-1) : purses()[end][person];
    }

    private BigInteger weight(int end) {
        BigInteger weight = BigInteger.ONE;
        for (int h = 0; h < state.chances.size(); h++) {
            int chance = state.chances.get(h);
            weight = weight.multiply(BigInteger.valueOf((end >> h & 1) == 1 ? chance : 100 - chance));
        }
        return weight;
    }

    private int meanOf(int person, int[][] purses) {
        BigInteger sum = BigInteger.ZERO;
        for (int end = 0; end < purses.length; end++) {
            sum = sum.add(weight(end).multiply(BigInteger.valueOf(purses[end][person])));
        }
        return sum.multiply(HUNDRED).divide(HUNDRED.pow(state.chances.size())).intValueExact();
    }

    int mean(int person) {
        return noPerson(person) ? farNo(-1) : meanOf(person, purses());
    }

    private static int worstOf(int person, int[][] purses) {
        int least = Integer.MAX_VALUE;
        for (int[] purse : purses) {
            least = Math.min(least, purse[person]);
        }
        return least;
    }

    private static int bestOf(int person, int[][] purses) {
        int most = Integer.MIN_VALUE;
        for (int[] purse : purses) {
            most = Math.max(most, purse[person]);
        }
        return most;
    }

    private static int endWith(int person, int purse, int[][] purses) {
        for (int end = 0; end < purses.length; end++) {
            if (purses[end][person] == purse) {
                return end;
            }
        }
        return Integer.MIN_VALUE;
    }

    int worst(int person, int what) {
        return extreme(person, what, true);
    }

    int best(int person, int what) {
        return extreme(person, what, false);
    }

    private int extreme(int person, int what, boolean isWorst) {
        if (noPerson(person)) {
            return farNo(-1);
        }
        if (what < 0 || what > 1) {
            return farNo(-2);
        }
        int[][] purses = purses();
        int purse = isWorst ? worstOf(person, purses) : bestOf(person, purses);
        return what == 0 ? purse : endWith(person, purse, purses);
    }

    int sure(int person) {
        if (noPerson(person)) {
            return no(-1);
        }
        int[][] purses = purses();
        return worstOf(person, purses) >= 0 && bestOf(person, purses) > 0 ? 1 : 0;
    }

    int likely(int person) {
        if (noPerson(person)) {
            return no(-1);
        }
        int[][] purses = purses();
        BigInteger sum = BigInteger.ZERO;
        for (int end = 0; end < purses.length; end++) {
            sum = purses[end][person] > 0 ? sum.add(weight(end)) : sum;
        }
        return sum.multiply(HUNDRED).divide(HUNDRED.pow(state.chances.size())).intValueExact();
    }

    int voids() {
        int bits = 0;
        for (int[] standings : standings()) {
            for (int bet = 0; bet < standings.length; bet++) {
                bits |= standings[bet] == 2 ? 1 << bet : 0;
            }
        }
        return bits;
    }

    int sparing(int person) {
        if (noPerson(person)) {
            return no(-1);
        }
        int[][] standings = standings();
        int now = worstOf(person, purses(state.wagers, standings));
        int greatest = now;
        int answer = -9;
        for (int bet = state.wagers.size() - 1; bet >= 0; bet--) {
            Wager w = state.wagers.get(bet);
            for (int stake = 99; stake >= 0 && w.bettor == person; stake--) {
                List<Wager> others = new ArrayList<>(state.wagers);
                others.set(bet, w.with(stake, w.odds));
                int worst = worstOf(person, purses(others, standings));
                if (worst > now && worst >= greatest) {
                    greatest = worst;
                    answer = 100 * bet + stake;
                }
            }
        }
        return answer;
    }

    int safeOdds(int bet) {
        if (noBet(bet)) {
            return no(-1);
        }
        int[][] standings = standings();
        Wager w = state.wagers.get(bet);
        int answer = -9;
        for (int odds = 0; odds <= 9; odds++) {
            List<Wager> others = new ArrayList<>(state.wagers);
            others.set(bet, w.with(w.stake, odds));
            answer = meanOf(w.holder, purses(others, standings)) >= 0 ? odds : answer;
        }
        return answer;
    }

    int host() {
        int[][] purses = purses();
        int host = 3;
        for (int person = 2; person >= 0; person--) {
            host = meanOf(person, purses) >= meanOf(host, purses) ? person : host;
        }
        return host;
    }

    int settling(int end) {
        return noEnd(end) ? no(-1) : fewest(purses()[end].clone(), 0);
    }

    /** Settles the first PURSE with each of the others, one payment for each, and takes the best. */
    private static int fewest(int[] purses, int first) {
        if (first == 4) {
            return 0;
        }
        if (purses[first] == 0) {
            return fewest(purses, first + 1);
        }
        int fewest = 9;
        for (int other = first + 1; other < 4; other++) {
            int[] after = purses.clone();
            after[other] += after[first];
            after[first] = 0;
            fewest = Math.min(fewest, 1 + fewest(after, first + 1));
        }
        return fewest;
    }

    int cannotPay(int end) {
        if (noEnd(end)) {
            return no(-1);
        }
        int bits = 0;
        for (int person = 0; person < 4; person++) {
            bits |= -purses()[end][person] > state.funds.get(person) ? 1 << person : 0;
        }
        return bits;
    }

    int rings() {
        int bits = 0;
        for (int bet = 0; bet < state.wagers.size(); bet++) {
            bits |= comesTo(bet, bet, 6) ? 1 << bet : 0;
        }
        return bits;
    }

    private boolean comesTo(int from, int to, int steps) {
        if (steps == 0 || from >= state.wagers.size()) {
            return false;
        }
        Wager w = state.wagers.get(from);
        boolean looksAtBoth = "oexn".indexOf(w.kind) >= 0;
        return w.first >= 10 && (w.first - 10 == to || comesTo(w.first - 10, to, steps - 1))
                || looksAtBoth && w.second >= 10 && (w.second - 10 == to || comesTo(w.second - 10, to, steps - 1));
    }

    int row(int v) {
        if (v < 0) {
            return no(-4);
        }
        if (v > 999 || row.size() == 4) {
            return no(-6);
        }
        row.add(v);
        return row.size();
    }

    private int unlike(int[] purses) {
        for (int i = 0; i < row.size(); i++) {
            if (purses[i] + 500 != row.get(i)) {
                return i;
            }
        }
        return -9;
    }

    int fitting(int what) {
        if (what < 0 || what > 1) {
            return no(-2);
        }
        int[][] purses = purses();
        int bits = 0;
        int many = 0;
        for (int end = 0; end < purses.length; end++) {
            if (unlike(purses[end]) == -9) {
                bits += 1 << end;
                many++;
            }
        }
        return what == 0 ? bits : many;
    }

    int judge(int end) {
        if (noEnd(end)) {
            return no(-1);
        }
        int answer = unlike(purses()[end]);
        row.clear();
        return answer;
    }

    int seeds(int n, int z, int person) {
        if (noPerson(person)) {
            return farNo(-1);
        }
        if (n < 1) {
            return farNo(-4);
        }
        if (n > 30) {
            return farNo(-6);
        }
        int[][] purses = purses();
        long seed = z;
        int sum = 0;
        for (int race = 0; race < n; race++) {
            int end = 0;
            for (int h = 0; h < state.chances.size(); h++) {
                seed = Math.floorMod(seed * 1664525 + 1013904223, 1L << 32);
                long draw = seed % (1L << 31) / 256 % 100;
                end += draw < state.chances.get(h) ? 1 << h : 0;
            }
            sum += purses[end][person];
        }
        return sum;
    }

    int image() {
        image = state.copy();
        return image.wagers.size();
    }

    int on() {
        if (image == null) {
            return no(-3);
        }
        state = image.copy();
        return state.wagers.size();
    }

    int count(int what) {
        return switch (what) {
            case 0 -> state.chances.size();
            case 1 -> state.wagers.size();
            case 2 -> ends();
            case 3 -> state.wagers.stream().mapToInt(Wager::stake).sum();
            case 4 -> row.size();
            case 5 -> text.length();
            case 11, 12, 13, 14, 15, 16 -> refusals[what - 10];
            default -> -9;
        };
    }
}
