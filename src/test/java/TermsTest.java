/** Sections 1 and 2: each sentence there that names a bound has a test of its own, in the document's order. */
final class TermsTest extends Scenes {
    public static void main(String[] args) {
        section1();
        section2();
        end("TermsTest");
    }

    // ---- section 1

    private static void section1() {
        wideAndHighAre6To14();
        cellsAreNumberedRowByRow();
        apartIsTheGreaterOfRowsAndColumns();
        apartDoesNotGoOverTheEdge();
        bearingsGoRound();
        levelIs0AtFirst();
        levelIs0To20();
        timeIs0AtFirstAnd600AtMost();
        timeStaysWithAStepThatIsNotTaken();
        hourIsTimeBy20Modulo24();
        windHas12ReportsAtMost();
        windIs0WithoutOne();
        windHoldsFromItsTimeOn();
        windThatWasToldLastHolds();
        zonesAre4AtMost();
        zonesAreInTheYard();
        zonesAreShutInBothHours();
        zonesGoOverMidnight();
        zonesOfOneHourAndOfAll();
        zonesOverOneAnother();
    }

    private static void wideAndHighAre6To14() {
        Slewyard site = new Slewyard();
        for (int wide = 0; wide <= 20; wide++) {
            for (int high = 0; high <= 20; high++) {
                int columns = wide;
                int rows = high;
                if (wide >= 6 && wide <= 14 && high >= 6 && high <= 14) {
                    is(wide * high, site.yard(columns, rows));
                } else {
                    argument(() -> site.yard(columns, rows));
                }
            }
        }
    }

    private static void cellsAreNumberedRowByRow() {
        Slewyard site = new Slewyard();
        is(63, site.yard(9, 7));
        site.level(0, 1);
        site.level(8, 1);
        site.level(9, 1);
        site.level(62, 1);
        is("#.......#", site.drawn(0));
        is("#........", site.drawn(1));
        is("........#", site.drawn(6));
        index(() -> site.level(63, 1));
        is(0, site.crane(53, 10, 2, 60, 6));
        is("......=v0", site.drawn(5));
    }

    /** A high TOWER with its JIB away is refused just where the JIB of the low one is not more than 1 APART. */
    private static void towersAround(int tower, int bearing, int top, int bottom, int left, int right) {
        for (int cell = 0; cell < 100; cell++) {
            Slewyard site = tenByTen();
            is(0, site.crane(tower, 10, 2, 60, bearing));
            int at = cell;
            int row = cell / 10;
            int column = cell % 10;
            if (row >= top && row <= bottom && column >= left && column <= right) {
                state(() -> site.crane(at, 20, 2, 60, row < 5 ? 4 : 0));
            } else {
                is(1, site.crane(at, 20, 2, 60, row < 5 ? 4 : 0));
            }
        }
    }

    private static void apartIsTheGreaterOfRowsAndColumns() {
        towersAround(44, 2, 3, 5, 3, 7);
        towersAround(44, 0, 1, 5, 3, 5);
    }

    private static void apartDoesNotGoOverTheEdge() {
        towersAround(48, 2, 3, 5, 7, 9);
        towersAround(51, 6, 4, 6, 0, 2);
        towersAround(5, 4, 0, 3, 4, 6);
        towersAround(95, 0, 6, 9, 4, 6);
    }

    private static void bearingsGoRound() {
        int[] plumbs = {45, 46, 56, 66, 65, 64, 54, 44};
        for (int bearing = 0; bearing < 8; bearing++) {
            Slewyard site = tenByTen();
            is(0, site.crane(55, 10, 2, 60, bearing));
            is(plumbs[bearing], site.ofCrane(0, 10));
        }
        Slewyard last = tenByTen();
        is(0, last.crane(55, 10, 2, 60, 7));
        is("0 0", row(last.step(0, 0), last.ofCrane(0, 4)));
        is("0 7", row(last.step(0, 1), last.ofCrane(0, 4)));
    }

    private static void levelIs0AtFirst() {
        Slewyard site = tenByTen();
        for (int cell = 0; cell < 100; cell++) {
            is(0, site.ofCell(cell, 0));
        }
    }

    private static void levelIs0To20() {
        Slewyard site = tenByTen();
        int before = 0;
        for (int level = -3; level <= 23; level++) {
            int tried = level;
            if (level >= 0 && level <= 20) {
                is(before, site.level(33, level));
                before = level;
            } else {
                argument(() -> site.level(33, tried));
            }
            is(before, site.ofCell(33, 0));
        }
    }

    private static void timeIs0AtFirstAnd600AtMost() {
        Slewyard site = tenByTen();
        site.crane(55, 10, 3, 60, 2);
        is(0, site.many(1));
        pass(site, 598);
        is("0 599 0 600", row(site.step(0, 2), site.many(1), site.step(0, 3), site.many(1)));
        state(() -> site.step(0, 2));
        state(() -> site.rest(1));
        is(600, site.many(1));
    }

    private static void timeStaysWithAStepThatIsNotTaken() {
        Slewyard site = tenByTen();
        site.crane(55, 10, 3, 60, 2);
        is("1 0", row(site.step(0, 3), site.many(1)));
        is("0 1", row(site.step(0, 2), site.many(1)));
        is("1 1", row(site.step(0, 4), site.many(1)));
        is("0 2", row(site.step(0, 6), site.many(1)));
    }

    private static void hourIsTimeBy20Modulo24() {
        int[] times = {0, 19, 20, 39, 40, 459, 460, 479, 480, 499, 500, 599, 600};
        int[] hours = {0, 0, 1, 1, 2, 22, 23, 23, 0, 0, 1, 5, 6};
        Slewyard site = tenByTen();
        for (int k = 0; k < times.length; k++) {
            pass(site, times[k] - site.many(1));
            is(row(times[k], hours[k]), row(site.many(1), site.many(2)));
        }
    }

    private static void windHas12ReportsAtMost() {
        Slewyard site = tenByTen();
        for (int k = 1; k <= 12; k++) {
            is(k, site.wind(600, 9, 0));
        }
        state(() -> site.wind(0, 1, 1));
        is("0 0", row(site.many(6), site.many(7)));
        site.yard(6, 6);
        is(1, site.wind(0, 1, 1));
    }

    private static void windIs0WithoutOne() {
        Slewyard site = tenByTen();
        is("0 0", row(site.many(6), site.many(7)));
        site.wind(1, 9, 7);
        is("0 0", row(site.many(6), site.many(7)));
        site.rest(1);
        is("9 7", row(site.many(6), site.many(7)));
    }

    private static void windHoldsFromItsTimeOn() {
        Slewyard site = tenByTen();
        site.wind(600, 1, 6);
        site.wind(300, 2, 5);
        site.wind(0, 3, 4);
        is("3 4", row(site.many(6), site.many(7)));
        pass(site, 299);
        is("3 4", row(site.many(6), site.many(7)));
        pass(site, 1);
        is("2 5", row(site.many(6), site.many(7)));
        pass(site, 299);
        is("2 5", row(site.many(6), site.many(7)));
        pass(site, 1);
        is("1 6", row(site.many(6), site.many(7)));
    }

    private static void windThatWasToldLastHolds() {
        Slewyard site = tenByTen();
        site.wind(0, 9, 1);
        is("9 1", row(site.many(6), site.many(7)));
        site.wind(0, 1, 2);
        is("1 2", row(site.many(6), site.many(7)));
        site.wind(0, 5, 0);
        is("5 0", row(site.many(6), site.many(7)));
    }

    private static void zonesAre4AtMost() {
        Slewyard site = tenByTen();
        for (int k = 0; k < 4; k++) {
            is(k, site.zone(k, 1, 1, 0, 0));
        }
        state(() -> site.zone(4, 1, 1, 0, 0));
        is("4 1 0", row(site.many(5), site.ofCell(3, 4), site.ofCell(4, 4)));
        site.yard(6, 6);
        is(0, site.zone(0, 1, 1, 0, 0));
    }

    private static void zonesAreInTheYard() {
        for (int size = -1; size <= 15; size++) {
            int tried = size;
            Slewyard site = new Slewyard();
            site.yard(12, 8);
            if (size >= 1 && size <= 9) {
                is(0, site.zone(27, 1, 1, 0, 0));
                is(0, site.ofCell(26, 4));
            }
            if (size >= 1 && size <= 9) {
                is(1, site.zone(15, size, 1, 0, 0));
            } else {
                argument(() -> site.zone(15, tried, 1, 0, 0));
            }
            if (size >= 1 && size <= 7) {
                is(2, site.zone(15, 1, size, 0, 0));
            } else {
                argument(() -> site.zone(15, 1, tried, 0, 0));
            }
        }
        Slewyard whole = new Slewyard();
        whole.yard(12, 8);
        is(0, whole.zone(0, 12, 8, 0, 0));
        is("1 1 1 1", row(whole.ofCell(0, 4), whole.ofCell(11, 4), whole.ofCell(84, 4), whole.ofCell(95, 4)));
    }

    /** In which HOURS the CELL 0 is shut, from 0 to 23, as a text of 0 and 1. */
    private static String shutHours(Slewyard site) {
        StringBuilder text = new StringBuilder();
        for (int hour = 0; hour < 24; hour++) {
            is(hour, site.many(2));
            text.append(site.ofCell(0, 4));
            pass(site, 20);
        }
        return text.toString();
    }

    private static String shutHours(int from, int to) {
        Slewyard site = tenByTen();
        is(0, site.zone(0, 1, 1, from, to));
        return shutHours(site);
    }

    private static void zonesAreShutInBothHours() {
        is("000111110000000000000000", shutHours(3, 7));
        is("110000000000000000000000", shutHours(0, 1));
        is("000000000000000000000011", shutHours(22, 23));
    }

    private static void zonesGoOverMidnight() {
        is("111000000000000000000011", shutHours(22, 2));
        is("100000000000000000000001", shutHours(23, 0));
        is("111101111111111111111111", shutHours(5, 3));
    }

    private static void zonesOfOneHourAndOfAll() {
        is("100000000000000000000000", shutHours(0, 0));
        is("000000000000100000000000", shutHours(12, 12));
        is("000000000000000000000001", shutHours(23, 23));
        is("111111111111111111111111", shutHours(0, 23));
        is("111111111111111111111111", shutHours(13, 12));
    }

    private static void zonesOverOneAnother() {
        Slewyard site = tenByTen();
        site.zone(0, 2, 2, 5, 6);
        site.zone(0, 3, 3, 6, 7);
        site.zone(0, 1, 1, 23, 23);
        is("000001110000000000000001", shutHours(site));
    }

    // ---- section 2

    private static void section2() {
        cranesAre4AtMost();
        mastIs3To30();
        reachIs2To9();
        momentIs5To400();
        bearingIs0To7();
        aNewCraneIsDrawnIn();
        jibEndsAtReachAndEdge();
        jibHasNothingBeyondTheEdge();
        plumbIsInTheYard();
        clashAByMastsAndApart();
        clashAAcross();
        clashBByHookAndApart();
        clashBByMasts();
        clashBInEachBearing();
        clashCByMastsAndApart();
        clashCWhereverTheHooksAre();
        capacityIsRoundedDown();
        capacityLosesAbove4();
        capacityIs0AtLeast();
        loadsAre8AtMost();
        weightIs1To60();
    }

    private static void cranesAre4AtMost() {
        Slewyard site = tenByTen();
        int[] corners = {0, 9, 90, 99};
        for (int k = 0; k < 4; k++) {
            is(k, site.crane(corners[k], 10, 2, 60, k < 2 ? 4 : 0));
        }
        state(() -> site.crane(44, 10, 2, 60, 0));
        is(4, site.many(3));
        index(() -> site.ofCrane(4, 0));
        site.yard(6, 6);
        is(0, site.crane(7, 10, 2, 60, 0));
    }

    private static void mastIs3To30() {
        for (int mast = 0; mast <= 33; mast++) {
            int tried = mast;
            Slewyard site = tenByTen();
            if (mast >= 3 && mast <= 30) {
                is(0, site.crane(55, mast, 2, 60, 2));
                is(row(mast, mast - 1), row(site.ofCrane(0, 1), site.ofCrane(0, 6)));
            } else {
                argument(() -> site.crane(55, tried, 2, 60, 2));
            }
        }
    }

    private static void reachIs2To9() {
        for (int reach = 0; reach <= 12; reach++) {
            int tried = reach;
            Slewyard site = new Slewyard();
            site.yard(14, 14);
            if (reach >= 2 && reach <= 9) {
                is(0, site.crane(0, 10, reach, 60, 2));
                is(row(reach, reach + 1), row(site.ofCrane(0, 2), site.ofCrane(0, 12)));
                steps(site, 0, 2, reach - 1);
                is("1 " + reach, row(site.step(0, 2), site.ofCrane(0, 5)));
            } else {
                argument(() -> site.crane(0, 10, tried, 60, 2));
            }
        }
    }

    private static void momentIs5To400() {
        for (int moment : new int[] {3, 4, 5, 6, 399, 400, 401, 402}) {
            Slewyard site = tenByTen();
            if (moment >= 5 && moment <= 400) {
                is(0, site.crane(55, 10, 2, moment, 2));
                is(row(moment, moment), row(site.ofCrane(0, 3), site.ofCrane(0, 11)));
            } else {
                argument(() -> site.crane(55, 10, 2, moment, 2));
            }
        }
    }

    private static void bearingIs0To7() {
        for (int bearing = -2; bearing <= 9; bearing++) {
            int tried = bearing;
            Slewyard site = tenByTen();
            if (bearing >= 0 && bearing <= 7) {
                is(0, site.crane(55, 10, 2, 60, bearing));
                is(bearing, site.ofCrane(0, 4));
            } else {
                argument(() -> site.crane(55, 10, 2, 60, tried));
            }
        }
    }

    private static void aNewCraneIsDrawnIn() {
        Slewyard site = tenByTen();
        site.crane(55, 12, 5, 60, 3);
        is("3 1 11 0 0 -1", ofCrane(site, 0, 4, 9));
        is(0, site.ofCrane(0, 14));
    }

    /** How many CELLS the JIB has in each BEARING; 0 where the PLUMB would not be in the YARD. */
    private static String jibs(int wide, int high, int tower, int reach) {
        int[] cells = new int[8];
        for (int bearing = 0; bearing < 8; bearing++) {
            int turn = bearing;
            Slewyard site = new Slewyard();
            site.yard(wide, high);
            try {
                site.crane(tower, 10, reach, 60, turn);
                cells[bearing] = site.ofCrane(0, 12);
                is(reach, site.ofCrane(0, 2));
            } catch (IllegalStateException e) {
                is(IllegalStateException.class.getName(), thrown(e));
            }
        }
        return row(cells);
    }

    private static void jibEndsAtReachAndEdge() {
        is("2 2 9 9 9 2 2 2", jibs(10, 10, 11, 9));
        is("3 3 3 3 3 3 3 3", jibs(10, 10, 44, 2));
        is("5 5 6 6 6 5 5 5", jibs(10, 10, 44, 9));
        is("8 7 7 7 7 7 8 8", jibs(14, 14, 105, 9));
        is("0 0 10 10 10 0 0 0", jibs(14, 14, 0, 9));
        is("10 0 0 0 0 0 10 10", jibs(14, 14, 195, 9));
        is("3 3 9 4 4 3 3 3", jibs(11, 6, 24, 8));
    }

    /** On a slant the next CELL of the JIB would be 1 APART from the other TOWER, but it is not in the YARD. */
    private static void jibHasNothingBeyondTheEdge() {
        int[] towers = {57, 47, 52, 42, 24, 74};
        int[] bearings = {1, 3, 7, 5, 1, 3};
        int[] others = {19, 89, 10, 80, 8, 98};
        int[] aways = {6, 6, 2, 2, 4, 0};
        for (int k = 0; k < towers.length; k++) {
            Slewyard site = tenByTen();
            is(0, site.crane(towers[k], 10, 5, 60, bearings[k]));
            is(1, site.crane(others[k], 10, 2, 60, aways[k]));
            is("3 0 0", row(site.ofCrane(0, 12), site.clash(0, 1), site.clash(1, 0)));
            Slewyard turned = tenByTen();
            is(0, turned.crane(others[k], 10, 2, 60, aways[k]));
            is(1, turned.crane(towers[k], 10, 5, 60, bearings[k]));
            is("3 0 0", row(turned.ofCrane(1, 12), turned.clash(0, 1), turned.clash(1, 0)));
        }
    }

    private static void plumbIsInTheYard() {
        is("0 0 3 3 3 0 0 0", jibs(10, 10, 0, 2));
        is("0 0 0 0 3 3 3 0", jibs(10, 10, 9, 2));
        is("3 3 3 0 0 0 0 0", jibs(10, 10, 90, 2));
        is("3 0 0 0 0 0 3 3", jibs(10, 10, 99, 2));
        is("0 0 3 3 3 3 3 0", jibs(10, 10, 5, 2));
        is("3 3 3 3 3 0 0 0", jibs(10, 10, 50, 2));
        is("3 0 0 0 3 3 3 3", jibs(10, 10, 59, 2));
        is("3 3 3 0 0 0 3 3", jibs(10, 10, 95, 2));
    }

    /** The JIB from 40 ends at 43; that from 49 comes to 49 less REACH: 2 APART with 4, 1 APART with 5. */
    private static void clashAByMastsAndApart() {
        for (int mast = 3; mast <= 30; mast++) {
            for (int reach = 2; reach <= 7; reach++) {
                int height = mast;
                int length = reach;
                Slewyard site = tenByTen();
                is(0, site.crane(40, 15, 3, 60, 2));
                if (mast >= 13 && mast <= 17 && reach >= 5) {
                    state(() -> site.crane(49, height, length, 60, 6));
                } else {
                    is(1, site.crane(49, mast, reach, 60, 6));
                    is("0 0", row(site.clash(0, 1), site.clash(1, 0)));
                }
            }
        }
    }

    private static void clashAAcross() {
        for (int mast = 5; mast <= 15; mast++) {
            int height = mast;
            Slewyard straight = tenByTen();
            is(0, straight.crane(52, 10, 5, 60, 2));
            Slewyard slant = tenByTen();
            is(0, slant.crane(33, 10, 3, 60, 3));
            if (mast > 7 && mast < 13) {
                state(() -> straight.crane(25, height, 5, 60, 4));
                state(() -> slant.crane(38, height, 4, 60, 5));
            } else {
                is(1, straight.crane(25, mast, 5, 60, 4));
                is(1, slant.crane(38, mast, 4, 60, 5));
            }
        }
    }

    /** The low JIB ends at 25; the PLUMB of the high one is 45 (2 APART), 35 (1 APART) or 25, by its RADIUS. */
    private static void clashBByHookAndApart() {
        for (int radius = 1; radius <= 3; radius++) {
            for (int low = 0; low <= 1; low++) {
                int high = 1 - low;
                Slewyard site = tenByTen();
                for (int k = 0; k < 2; k++) {
                    is(k, k == low ? site.crane(22, 4, 3, 60, 2) : site.crane(55, 10, 3, 60, 0));
                }
                steps(site, high, 2, radius - 1);
                steps(site, high, 5, 3);
                is(row(6, 0), row(site.ofCrane(high, 6), site.clash(0, 1)));
                is(radius == 1 ? 0 : 7, site.step(high, 5));
                is(radius == 1 ? 5 : 6, site.ofCrane(high, 6));
            }
        }
    }

    private static void clashBByMasts() {
        Slewyard by3 = tenByTen();
        is(0, by3.crane(22, 4, 3, 60, 2));
        is(1, by3.crane(55, 7, 3, 60, 0));
        is(0, by3.step(1, 2));
        is(7, by3.step(1, 5));
        Slewyard by2 = tenByTen();
        is(0, by2.crane(22, 5, 3, 60, 2));
        state(() -> by2.crane(55, 7, 3, 60, 0));
    }

    /** The high one comes along its BEARING to the low one, 6 CELLS away, whose JIB goes on in that BEARING. */
    private static void clashBInEachBearing() {
        int[] steps = {-13, -12, 1, 14, 13, 12, -1, -14};
        for (int bearing = 0; bearing < 8; bearing++) {
            Slewyard site = new Slewyard();
            site.yard(13, 13);
            is(0, site.crane(84, 4, 2, 60, bearing));
            is(1, site.crane(84 - 6 * steps[bearing], 10, 6, 60, bearing));
            steps(site, 0, 2, 1);
            steps(site, 1, 5, 4);
            steps(site, 1, 2, 3);
            is("5 4 1", row(site.ofCrane(1, 6), site.ofCrane(1, 5), site.many(9)));
            is(7, site.step(1, 2));
            steps(site, 1, 4, 1);
            steps(site, 1, 2, 2);
            is("7 6 0", row(site.step(1, 5), site.ofCrane(1, 5), site.clash(0, 1)));
        }
    }

    /** The JIB from 44 goes to the right edge; TOWERS stand below it, beside it, and 2 APART. */
    private static void clashCByMastsAndApart() {
        int[] towers = {47, 57, 67, 37, 27};
        int[] aparts = {0, 1, 2, 1, 2};
        for (int k = 0; k < towers.length; k++) {
            int tower = towers[k];
            int away = tower >= 47 ? 4 : 0;
            for (int mast = 3; mast <= 30; mast++) {
                int height = mast;
                Slewyard site = tenByTen();
                is(0, site.crane(44, 10, 5, 60, 2));
                if (mast >= 8 && aparts[k] < 2) {
                    state(() -> site.crane(tower, height, 2, 60, away));
                } else {
                    is(1, site.crane(tower, mast, 2, 60, away));
                    is("0 0", row(site.clash(0, 1), site.clash(1, 0)));
                }
            }
        }
    }

    private static void clashCWhereverTheHooksAre() {
        for (int hook = 19; hook >= 1; hook--) {
            Slewyard site = tenByTen();
            is(0, site.crane(47, 20, 2, 60, 2));
            is(1, site.crane(44, 10, 2, 60, 1));
            steps(site, 0, 5, 19 - hook);
            is(row(hook, 7), row(site.ofCrane(0, 6), site.step(1, 0)));
        }
    }

    private static void capacityIsRoundedDown() {
        int[] moments = {5, 8, 9, 17, 18, 61, 400};
        String[] capacities = {"5 2 1 1 1 0 0 0 0", "8 4 2 2 1 1 1 1 0", "9 4 3 2 1 1 1 1 1", "17 8 5 4 3 2 2 2 1",
            "18 9 6 4 3 3 2 2 2", "61 30 20 15 12 10 8 7 6", "400 200 133 100 80 66 57 50 44"};
        for (int k = 0; k < moments.length; k++) {
            Slewyard site = new Slewyard();
            site.yard(14, 14);
            site.crane(0, 10, 9, moments[k], 2);
            int[] got = new int[9];
            for (int radius = 1; radius <= 9; radius++) {
                is(radius, site.ofCrane(0, 5));
                got[radius - 1] = site.ofCrane(0, 11);
                is(radius == 9 ? 1 : 0, site.step(0, 2));
            }
            is(capacities[k], row(got));
        }
    }

    private static void capacityLosesAbove4() {
        int[] lost = {0, 0, 0, 0, 0, 2, 4, 6, 8, 10};
        for (int force = 0; force <= 9; force++) {
            Slewyard site = tenByTen();
            site.crane(55, 10, 3, 60, 2);
            site.step(0, 2);
            site.wind(0, force, 0);
            is(30 - lost[force], site.ofCrane(0, 11));
        }
    }

    private static void capacityIs0AtLeast() {
        for (int moment = 8; moment <= 12; moment++) {
            Slewyard site = tenByTen();
            site.crane(55, 10, 3, moment, 2);
            site.wind(0, 9, 0);
            is(Math.max(0, moment - 10), site.ofCrane(0, 11));
        }
    }

    private static void loadsAre8AtMost() {
        Slewyard site = tenByTen();
        for (int k = 0; k < 8; k++) {
            is(k, site.load(33, 60));
            is(k + 1, site.ofCell(33, 1));
        }
        state(() -> site.load(33, 60));
        is("8 8", row(site.many(4), site.ofCell(33, 1)));
        index(() -> site.ofLoad(8, 0));
        site.yard(6, 6);
        is(0, site.load(33, 60));
    }

    private static void weightIs1To60() {
        for (int weight = -1; weight <= 62; weight++) {
            int tried = weight;
            Slewyard site = tenByTen();
            if (weight >= 1 && weight <= 60) {
                is(0, site.load(33, weight));
                is(weight, site.ofLoad(0, 0));
            } else {
                argument(() -> site.load(33, tried));
            }
        }
    }
}
