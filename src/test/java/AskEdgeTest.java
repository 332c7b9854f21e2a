/** Promises 13 to 26: each sentence there that names a bound has a test of its own, in the document's order. */
final class AskEdgeTest extends Scenes {
    private static final int[] WILD = {-1, Integer.MIN_VALUE, Integer.MAX_VALUE};

    public static void main(String[] args) {
        whatIsSo();
        end("AskEdgeTest");
    }

    // ---- promises 13 to 26

    private static void whatIsSo() {
        promise13To15TheFirstExceptionOfSeveral();
        promise14OfALoadThatHangs();
        promise15UnderMoreThanOneJib();
        promise16IsThatOfStep();
        promise16NoneAtTheLastTime();
        promise17TheFirstRuleOfSeveral();
        promise17TheFirstExceptionOfSeveral();
        promise18TheFirstExceptionOfSeveral();
        promise19FieldsLeastAndGreatest();
        promise20From0To7();
        promise21PlacesInTheOrder();
        promise22Bounds();
        promise23RowsOfTheYard();
        promise23TheFirstSignThatHolds();
        promise25CountsOnAndOn();
        promise26OfAFullYard();
    }

    private static void promise13To15TheFirstExceptionOfSeveral() {
        Slewyard site = lifted(60, 5);
        long before = site.digest();
        for (int wild : WILD) {
            index(() -> site.ofCrane(wild, wild));
            index(() -> site.ofLoad(wild, wild));
            index(() -> site.ofCell(wild, wild));
            argument(() -> site.ofCrane(0, wild));
            argument(() -> site.ofLoad(0, wild));
            argument(() -> site.ofCell(0, wild));
        }
        index(() -> site.ofCrane(1, 0));
        index(() -> site.ofLoad(1, 0));
        index(() -> site.ofCell(100, 0));
        argument(() -> site.ofCrane(0, 15));
        argument(() -> site.ofLoad(0, 4));
        argument(() -> site.ofCell(99, 5));
        is("0 1 0", row(site.ofCrane(0, 14), site.ofLoad(0, 3), site.ofCell(99, 4)));
        is(before, site.digest());
    }

    private static void promise14OfALoadThatHangs() {
        Slewyard site = meeting(60);
        is("20 43 0 1", row(site.ofLoad(0, 0), site.ofLoad(0, 1), site.ofLoad(0, 2), site.ofLoad(0, 3)));
        is(0, site.hand(0, 1));
        is("20 45 1 2", row(site.ofLoad(0, 0), site.ofLoad(0, 1), site.ofLoad(0, 2), site.ofLoad(0, 3)));
        steps(site, 1, 5, 1);
        is(0, site.set(1));
        is("20 45 -1 2", row(site.ofLoad(0, 0), site.ofLoad(0, 1), site.ofLoad(0, 2), site.ofLoad(0, 3)));
    }

    private static void promise15UnderMoreThanOneJib() {
        Slewyard site = tenByTen();
        is(0, site.crane(52, 5, 5, 60, 2));
        is(1, site.crane(25, 12, 5, 60, 4));
        is(2, site.crane(88, 19, 5, 60, 7));
        is(3, site.crane(82, 28, 6, 60, 1));
        is("15 -1", row(site.ofCell(55, 2), site.ofCell(55, 3)));
        is("1 2 4 8 1 0", row(site.ofCell(56, 2), site.ofCell(45, 2), site.ofCell(66, 2), site.ofCell(64, 2),
            site.ofCell(52, 2), site.ofCell(51, 2)));
        is("0 1 2 3", row(site.ofCell(52, 3), site.ofCell(25, 3), site.ofCell(88, 3), site.ofCell(82, 3)));
    }

    private static void promise16IsThatOfStep() {
        int[] seen = new int[8];
        Slewyard site = lifted(60, 29);
        is(1, site.crane(79, 6, 2, 60, 6));
        site.zone(57, 1, 1, 0, 0);
        site.level(45, 3);
        int[] winds = {0, 7, 6, 0, 5, 0};
        for (int k = 0; k < 150; k++) {
            if (k % 25 == 0) {
                site.wind(0, winds[k / 25], 0);
            }
            int motion = k % 25 == 24 ? 6 : k * 5 % 6;
            int told = site.would(k / 2 % 2, motion);
            is(told, site.step(k / 2 % 2, motion));
            seen[told]++;
        }
        is(true, seen[0] > 10 && seen[1] > 10 && seen[2] > 10 && seen[4] > 0);
    }

    private static void promise16NoneAtTheLastTime() {
        Slewyard site = tenByTen();
        site.crane(55, 10, 2, 60, 2);
        pass(site, 599);
        is("0 0 0 1 1 0 0", wouldAll(site, 0));
        pass(site, 1);
        is("-1 -1 -1 -1 -1 -1 -1", wouldAll(site, 0));
        index(() -> site.would(1, 0));
        index(() -> site.would(1, 7));
        argument(() -> site.would(0, 7));
        argument(() -> site.would(0, -1));
        for (int wild : WILD) {
            index(() -> site.would(wild, 0));
            argument(() -> site.would(0, wild));
        }
    }

    /** The first one has a LOAD on its HOOK and stays; the WIND turns the other one to it. Returns the rule. */
    private static int ruleBehindTheWind(int mast, int hook, int otherTower, int otherReach, int otherMast) {
        Slewyard site = tenByTen();
        is(0, site.crane(55, mast, 4, 400, 2));
        is(0, site.load(56, 1));
        steps(site, 0, 5, mast - 2);
        is(0, site.hang(0));
        steps(site, 0, 4, hook - 1);
        is(1, site.crane(otherTower, otherMast, otherReach, 60, 6));
        site.wind(0, 9, 2);
        is(1, site.rest(1));
        is(site.clash(0, 1), site.clash(1, 0));
        is(site.clash(0, 1) == 0 ? 0 : 1, site.many(8));
        return site.clash(0, 1);
    }

    private static void promise17TheFirstRuleOfSeveral() {
        is("1 1 1", row(ruleBehindTheWind(12, 11, 53, 3, 12), ruleBehindTheWind(12, 11, 53, 3, 10),
            ruleBehindTheWind(12, 11, 53, 3, 14)));
        is("3 3", row(ruleBehindTheWind(12, 11, 53, 3, 9), ruleBehindTheWind(12, 11, 53, 3, 4)));
        is("3 2 2", row(ruleBehindTheWind(20, 8, 53, 3, 6), ruleBehindTheWind(20, 7, 53, 3, 6),
            ruleBehindTheWind(20, 2, 53, 3, 6)));
        is("0 0 0", row(ruleBehindTheWind(20, 2, 51, 2, 6), ruleBehindTheWind(15, 14, 51, 2, 15),
            ruleBehindTheWind(15, 2, 51, 2, 30)));
    }

    private static void promise17TheFirstExceptionOfSeveral() {
        Slewyard site = clashing();
        for (int wrong : new int[] {2, -1, Integer.MIN_VALUE, Integer.MAX_VALUE}) {
            index(() -> site.clash(wrong, wrong));
            index(() -> site.clash(wrong, 0));
            index(() -> site.clash(0, wrong));
        }
        argument(() -> site.clash(0, 0));
        argument(() -> site.clash(1, 1));
    }

    private static void promise18TheFirstExceptionOfSeveral() {
        Slewyard site = clashing();
        long before = site.digest();
        for (int wild : WILD) {
            index(() -> site.way(wild, wild));
            index(() -> site.way(0, wild));
            index(() -> site.way(wild, 0));
            index(() -> site.field(wild));
            index(() -> site.swing(wild, true));
        }
        index(() -> site.way(0, 100));
        index(() -> site.way(2, 99));
        index(() -> site.field(2));
        index(() -> site.swing(2, false));
        is("-1 -1", row(site.way(0, 99), site.way(0, 0)));
        is(before, site.digest());
    }

    private static void promise19FieldsLeastAndGreatest() {
        Slewyard site = new Slewyard();
        site.yard(14, 14);
        for (int tower : new int[] {90, 91, 104, 105}) {
            Slewyard big = new Slewyard();
            big.yard(14, 14);
            big.crane(tower, 10, 9, 60, 0);
            is(51, big.field(0));
        }
        site.crane(0, 10, 9, 60, 2);
        is(27, site.field(0));
        for (int cell : new int[] {2, 15}) {
            site.level(cell, 9);
        }
        is(1, site.field(0));
        site.level(15, 8);
        is(26, site.field(0));
    }

    private static void promise20From0To7() {
        Slewyard site = tenByTen();
        site.crane(55, 10, 2, 60, 0);
        is("7 7", row(site.swing(0, false), site.swing(0, true)));
        int[] ahead = {46, 56, 66, 65, 64, 54, 44};
        for (int k = 0; k < 7; k++) {
            site.level(ahead[k], 9);
            is(row(k, 6 - k), row(site.swing(0, false), site.swing(0, true)));
            site.level(ahead[k], 8);
            is("7 7", row(site.swing(0, false), site.swing(0, true)));
            site.level(ahead[k], 0);
        }
        site.level(46, 9);
        site.level(44, 9);
        is("0 0", row(site.swing(0, false), site.swing(0, true)));
    }

    private static void promise21PlacesInTheOrder() {
        Slewyard site = tenByTen();
        argument(() -> site.order(-1));
        is(-1, site.order(0));
        int[] corners = {0, 9, 90, 99};
        for (int k = 0; k < 4; k++) {
            site.crane(corners[k], 8, 2, 5, k < 2 ? 4 : 0);
            is(row(k, -1), row(site.order(k), site.order(k + 1)));
        }
        is("0 1 2 3 -1 -1", row(site.order(0), site.order(1), site.order(2), site.order(3), site.order(4),
            site.order(Integer.MAX_VALUE)));
        argument(() -> site.order(-1));
        argument(() -> site.order(Integer.MIN_VALUE));
    }

    private static void promise22Bounds() {
        Slewyard site = clashing();
        long before = site.digest();
        for (int wild : WILD) {
            argument(() -> site.many(wild));
        }
        argument(() -> site.many(15));
        is("100 0", row(site.many(0), site.many(14)));
        is(before, site.digest());
    }

    private static void promise23RowsOfTheYard() {
        Slewyard site = new Slewyard();
        index(() -> site.drawn(0));
        site.yard(6, 14);
        is("......", site.drawn(0));
        is("......", site.drawn(13));
        index(() -> site.drawn(14));
        site.yard(14, 6);
        is("..............", site.drawn(5));
        index(() -> site.drawn(6));
        for (int wild : WILD) {
            index(() -> site.drawn(wild));
        }
    }

    private static void promise23TheFirstSignThatHolds() {
        Slewyard site = tenByTen();
        site.level(56, 1);
        site.level(57, 1);
        site.level(59, 1);
        for (int cell : new int[] {56, 57, 58, 59}) {
            site.load(cell, 1);
        }
        site.load(50, 1);
        is("*.....##*#", site.drawn(5));
        site.crane(55, 20, 2, 60, 2);
        is("*....0v=*#", site.drawn(5));
        site.crane(33, 8, 3, 60, 4);
        is("*..=.0v=*#", site.drawn(5));
        steps(site, 1, 2, 1);
        is("*..v.0v=*#", site.drawn(5));
        is("...1......", site.drawn(3));
    }

    private static void promise25CountsOnAndOn() {
        Slewyard site = new Slewyard();
        for (int k = 1; k <= 250; k++) {
            is(row(k, k), row(site.knock(), site.many(14)));
        }
        site.yard(6, 6);
        is("250 251", row(site.many(14), site.knock()));
    }

    /** Wraps around as a 64-bit integer. */
    private static long power(long base, int exponent) {
        long product = 1;
        for (int k = 0; k < exponent; k++) {
            product *= base;
        }
        return product;
    }

    private static void promise26OfAFullYard() {
        Slewyard site = new Slewyard();
        site.yard(14, 14);
        int[] towers = {30, 39, 156, 165};
        int[] bearings = {4, 6, 2, 0};
        for (int k = 0; k < 4; k++) {
            site.zone(k, 1, 1, 0, 23);
            is(k, site.crane(towers[k], 5 + 7 * k, 7, 400, bearings[k]));
            site.load(100 + k, 60);
            site.load(100 + k, 1);
        }
        is("196 0 0 4 8 4 0 0 0 0 0 0 0 1 0", many(site));
        is(summed(site), site.digest());
        long before = site.digest();
        site.knock();
        is(before + power(31, 196 * 5 + 4 * 25 + 8 * 4 + 1), site.digest());
    }
}
