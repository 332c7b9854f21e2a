/** Promises 1 to 6: each sentence there that names a bound has a test of its own, in the document's order. */
final class YardEdgeTest extends Scenes {
    public static void main(String[] args) {
        theYard();
        end("YardEdgeTest");
    }

    // ---- promises 1 to 6

    private static void theYard() {
        promise1NoCellsNoCranesNoLoads();
        promise1WindAndTimeWithoutAYard();
        promise2ASmallerYardHasNothingOfTheOldOne();
        promise2OnlyTheRefusedStay();
        promise2PlansAreOfTheNewYard();
        promise2IsRefusedAndChangesNothing();
        promise3UnderAHook();
        promise3UnderAHookWithALoad();
        promise3UnderTwoHooks();
        promise3NotUnderATower();
        promise3NotUnderALoad();
        promise3IsRefusedAndChangesNothing();
        promise4TheFirstExceptionOfSeveral();
        promise5TheFirstExceptionOfSeveral();
        promise5ZonesThatWouldWrapAround();
        promise6NotWhereATowerIs();
        promise6TheFirstExceptionOfSeveral();
    }

    private static void promise1NoCellsNoCranesNoLoads() {
        Slewyard site = new Slewyard();
        for (int number : new int[] {0, 1, -1, Integer.MIN_VALUE, Integer.MAX_VALUE}) {
            index(() -> site.level(number, 99));
            index(() -> site.zone(number, 0, 0, 99, 99));
            index(() -> site.load(number, 99));
            index(() -> site.crane(number, 99, 99, 999, 99));
            index(() -> site.step(number, 99));
            index(() -> site.hang(number));
            index(() -> site.set(number));
            index(() -> site.hand(number, number));
            index(() -> site.ofCrane(number, 99));
            index(() -> site.ofLoad(number, 99));
            index(() -> site.ofCell(number, 99));
            index(() -> site.would(number, 99));
            index(() -> site.clash(number, number));
            index(() -> site.way(number, number));
            index(() -> site.field(number));
            index(() -> site.swing(number, false));
            index(() -> site.swing(number, true));
            index(() -> site.drawn(number));
        }
        is(true, site.isSound());
        is(new Slewyard().digest(), site.digest());
    }

    private static void promise1WindAndTimeWithoutAYard() {
        Slewyard site = new Slewyard();
        for (int k = 1; k <= 12; k++) {
            is(k, site.wind(0, 9, k % 8));
        }
        state(() -> site.wind(0, 0, 0));
        is("9 4", row(site.many(6), site.many(7)));
        pass(site, 600);
        state(() -> site.rest(1));
        is("0 600 6 0 0 0 9 4 0 0 0 0 0 0 0", many(site));
        is(36, site.yard(6, 6));
        is("36 0 0 0 0 0 0 0 0 0 0 0 0 0 0", many(site));
    }

    private static void promise2ASmallerYardHasNothingOfTheOldOne() {
        Slewyard site = new Slewyard();
        site.yard(14, 14);
        for (int cell = 0; cell < 196; cell++) {
            site.level(cell, 20);
        }
        is(36, site.yard(6, 6));
        for (int cell = 0; cell < 36; cell++) {
            is(0, site.ofCell(cell, 0));
        }
        index(() -> site.ofCell(36, 0));
        index(() -> site.drawn(6));
        is(196, site.yard(14, 14));
        is("..............", site.drawn(13));
        is(0, site.ofCell(195, 0));
    }

    private static void promise2OnlyTheRefusedStay() {
        Slewyard site = clashing();
        site.load(99, 5);
        site.zone(0, 2, 2, 0, 23);
        site.knock();
        is("0 1 0", row(site.step(0, 0), site.step(0, 3), site.step(1, 5)));
        is("100 3 0 2 1 1 0 0 0 2 2 1 0 0 1", many(site));
        is(100, site.yard(10, 10));
        is("100 0 0 0 0 0 0 0 0 0 0 0 0 0 1", many(site));
        Slewyard same = tenByTen();
        same.knock();
        is(same.digest(), site.digest());
    }

    /** Asked of a YARD with more and other CRANES first, all plans are those of the new one. */
    private static void promise2PlansAreOfTheNewYard() {
        Slewyard site = tenByTen();
        int[] corners = {0, 9, 90, 99};
        for (int k = 0; k < 4; k++) {
            is(k, site.crane(corners[k], 8, 2, 400, k < 2 ? 4 : 0));
        }
        is("4 3", row(site.many(13), site.order(3)));
        is("6 3", row(site.field(3), site.way(3, 97)));
        is(100, site.yard(10, 10));
        is("0 -1", row(site.many(13), site.order(0)));
        is(0, site.crane(44, 9, 2, 400, 0));
        is("0 -1 16 -1", row(site.many(13), site.order(0), site.field(0), site.way(0, 97)));
        is(1, site.crane(99, 8, 2, 400, 0));
        is("1 1 -1", row(site.many(13), site.order(0), site.order(1)));
    }

    private static void promise2IsRefusedAndChangesNothing() {
        Slewyard site = clashing();
        long before = site.digest();
        for (int wrong : new int[] {5, 15, -6, Integer.MIN_VALUE, Integer.MAX_VALUE}) {
            argument(() -> site.yard(wrong, 10));
            argument(() -> site.yard(10, wrong));
            argument(() -> site.yard(wrong, wrong));
        }
        is(before, site.digest());
    }

    private static void promise3UnderAHook() {
        for (int down = 0; down <= 4; down++) {
            Slewyard site = tenByTen();
            site.crane(55, 6, 3, 60, 2);
            steps(site, 0, 5, down);
            int hook = 5 - down;
            for (int level = 0; level <= 20; level++) {
                int tried = level;
                if (level < hook) {
                    is(Math.max(0, level - 1), site.level(56, level));
                } else {
                    state(() -> site.level(56, tried));
                }
            }
            is(hook - 1, site.ofCell(56, 0));
            is(0, site.level(57, 20));
        }
    }

    private static void promise3UnderAHookWithALoad() {
        for (int down = 0; down <= 2; down++) {
            Slewyard site = lifted(60, 5);
            steps(site, 0, 5, down);
            int hook = 3 - down;
            for (int level = 0; level <= 20; level++) {
                int tried = level;
                if (level <= hook - 2) {
                    is(Math.max(0, level - 1), site.level(56, level));
                } else {
                    state(() -> site.level(56, tried));
                }
            }
            is(Math.max(0, hook - 2), site.ofCell(56, 0));
        }
    }

    private static void promise3UnderTwoHooks() {
        for (int low = 0; low <= 1; low++) {
            Slewyard site = tenByTen();
            for (int k = 0; k < 2; k++) {
                is(k, k == low ? site.crane(44, 5, 2, 60, 2) : site.crane(25, 12, 3, 60, 4));
            }
            steps(site, 1 - low, 2, 1);
            is("45 45", row(site.ofCrane(0, 10), site.ofCrane(1, 10)));
            state(() -> site.level(45, 4));
            is(0, site.level(45, 3));
        }
    }

    private static void promise3NotUnderATower() {
        Slewyard site = tenByTen();
        site.crane(55, 6, 3, 60, 2);
        for (int level = 0; level <= 20; level++) {
            int tried = level;
            state(() -> site.level(55, tried));
        }
        is("0 0", row(site.ofCell(55, 0), site.level(54, 20)));
    }

    private static void promise3NotUnderALoad() {
        Slewyard site = tenByTen();
        site.level(33, 4);
        site.load(33, 5);
        for (int level = 0; level <= 20; level++) {
            int tried = level;
            state(() -> site.level(33, tried));
        }
        is(4, site.ofCell(33, 0));
        Slewyard taken = lifted(60, 5);
        is(0, taken.level(56, 1));
    }

    private static void promise3IsRefusedAndChangesNothing() {
        Slewyard site = tenByTen();
        site.crane(55, 6, 3, 60, 2);
        site.load(33, 5);
        long before = site.digest();
        for (int cell : new int[] {-1, 100, Integer.MIN_VALUE, Integer.MAX_VALUE}) {
            index(() -> site.level(cell, 0));
            index(() -> site.level(cell, -1));
            index(() -> site.level(cell, 21));
        }
        for (int cell : new int[] {0, 33, 55, 56}) {
            for (int level : new int[] {-1, 21, Integer.MIN_VALUE, Integer.MAX_VALUE}) {
                argument(() -> site.level(cell, level));
            }
        }
        state(() -> site.level(33, 0));
        state(() -> site.level(55, 0));
        state(() -> site.level(56, 5));
        is(before, site.digest());
    }

    private static void promise4TheFirstExceptionOfSeveral() {
        Slewyard site = tenByTen();
        for (int k = 0; k < 12; k++) {
            site.wind(k, 1, 1);
        }
        long before = site.digest();
        argument(() -> site.wind(-1, 0, 0));
        argument(() -> site.wind(601, 0, 0));
        argument(() -> site.wind(0, -1, 0));
        argument(() -> site.wind(0, 10, 0));
        argument(() -> site.wind(0, 0, -1));
        argument(() -> site.wind(0, 0, 8));
        state(() -> site.wind(0, 0, 0));
        state(() -> site.wind(600, 9, 7));
        is(before, site.digest());
    }

    private static void promise5TheFirstExceptionOfSeveral() {
        Slewyard site = tenByTen();
        for (int k = 0; k < 4; k++) {
            site.zone(k, 1, 1, 0, 0);
        }
        long before = site.digest();
        index(() -> site.zone(100, 1, 1, 0, 0));
        index(() -> site.zone(-1, 0, 0, 24, 24));
        argument(() -> site.zone(99, 2, 1, 0, 0));
        argument(() -> site.zone(99, 1, 2, 0, 0));
        argument(() -> site.zone(0, 0, 1, 0, 0));
        argument(() -> site.zone(0, 1, 0, 0, 0));
        argument(() -> site.zone(0, 1, 1, -1, 0));
        argument(() -> site.zone(0, 1, 1, 24, 0));
        argument(() -> site.zone(0, 1, 1, 0, -1));
        argument(() -> site.zone(0, 1, 1, 0, 24));
        state(() -> site.zone(0, 1, 1, 0, 0));
        is(before, site.digest());
    }

    private static void promise5ZonesThatWouldWrapAround() {
        Slewyard site = tenByTen();
        for (int cell : new int[] {0, 9, 55, 90, 99}) {
            for (int size : new int[] {Integer.MAX_VALUE, Integer.MAX_VALUE - 5, Integer.MIN_VALUE, 11, 1 << 30}) {
                argument(() -> site.zone(cell, size, 1, 0, 0));
                argument(() -> site.zone(cell, 1, size, 0, 0));
                argument(() -> site.zone(cell, size, size, 0, 0));
            }
        }
        is(0, site.zone(9, 1, 10, 0, 0));
        is("1 0 1 0 1", row(site.ofCell(9, 4), site.ofCell(10, 4), site.ofCell(19, 4), site.ofCell(20, 4),
            site.ofCell(99, 4)));
        is(1, site.zone(90, 10, 1, 0, 0));
        is("1 1 0", row(site.ofCell(90, 4), site.ofCell(95, 4), site.ofCell(80, 4)));
    }

    private static void promise6NotWhereATowerIs() {
        Slewyard site = tenByTen();
        site.crane(55, 10, 3, 60, 2);
        state(() -> site.load(55, 5));
        is(0, site.load(54, 5));
        is(1, site.load(56, 5));
        is(2, site.load(57, 5));
        site.level(58, 20);
        is(3, site.load(58, 5));
        is("0 1 1 1 1", row(site.ofCell(55, 1), site.ofCell(54, 1), site.ofCell(56, 1), site.ofCell(57, 1),
            site.ofCell(58, 1)));
    }

    private static void promise6TheFirstExceptionOfSeveral() {
        Slewyard site = tenByTen();
        site.crane(55, 10, 3, 60, 2);
        for (int k = 0; k < 8; k++) {
            is(k, site.load(k, 1));
        }
        long before = site.digest();
        index(() -> site.load(100, 1));
        index(() -> site.load(-1, 0));
        index(() -> site.load(Integer.MAX_VALUE, 61));
        argument(() -> site.load(55, 0));
        argument(() -> site.load(99, 61));
        argument(() -> site.load(99, Integer.MIN_VALUE));
        argument(() -> site.load(99, Integer.MAX_VALUE));
        state(() -> site.load(55, 1));
        state(() -> site.load(99, 60));
        is(before, site.digest());
    }
}
