/** Yards with something on them, for more than one test. A YARD of 10 x 10 has ROW and COLUMN as digits. */
abstract class Scenes extends Checks {
    static Slewyard tenByTen() {
        Slewyard site = new Slewyard();
        is(100, site.yard(10, 10));
        return site;
    }

    /** Two CRANES of the same MAST whose JIBS the WIND of TIME 1 laid side by side: 52, 53, 54 and 55, 56, 57. */
    static Slewyard clashing() {
        Slewyard site = tenByTen();
        is(0, site.crane(52, 10, 2, 60, 6));
        is(1, site.crane(55, 10, 2, 60, 2));
        is(1, site.wind(1, 8, 2));
        is(1, site.rest(1));
        is(2, site.wind(1, 0, 0));
        is(1, site.clash(0, 1));
        return site;
    }

    /** The first of two CRANES has a LOAD of 20 at 43, the second one its PLUMB at 45; HOOKS are 2 and 2. */
    static Slewyard meeting(int moment) {
        Slewyard site = tenByTen();
        is(0, site.crane(40, 6, 3, 100, 2));
        is(1, site.crane(48, 6, 3, moment, 6));
        is(0, site.load(41, 20));
        steps(site, 0, 5, 4);
        is(0, site.hang(0));
        steps(site, 0, 4, 1);
        steps(site, 0, 2, 2);
        steps(site, 1, 2, 2);
        steps(site, 1, 5, 3);
        is("43 2 45 2", row(site.ofCrane(0, 10), site.ofCrane(0, 6), site.ofCrane(1, 10), site.ofCrane(1, 6)));
        return site;
    }

    /** A CRANE of a MAST of 5 and a REACH of 3 at 55 that has a LOAD on its HOOK, 3 above the ground, at 56. */
    static Slewyard lifted(int moment, int weight) {
        Slewyard site = tenByTen();
        is(0, site.crane(55, 5, 3, moment, 2));
        is(0, site.load(56, weight));
        steps(site, 0, 5, 3);
        is(0, site.hang(0));
        steps(site, 0, 4, 2);
        is(3, site.ofCrane(0, 6));
        return site;
    }

    /** Lets so much TIME go by. */
    static void pass(Slewyard site, int time) {
        for (int left = time; left > 0; left -= 100) {
            is(0, site.rest(Math.min(left, 100)));
        }
    }

    /** The checksum, made from the answers of the other calls. */
    static long summed(Slewyard site) {
        long d = 8821;
        for (int what = 0; what <= 14; what++) {
            d = d * 31 + site.many(what);
        }
        for (int cell = 0; cell < site.many(0); cell++) {
            for (int what = 0; what <= 4; what++) {
                d = d * 31 + site.ofCell(cell, what);
            }
        }
        for (int crane = 0; crane < site.many(3); crane++) {
            for (int what = 0; what <= 14; what++) {
                d = d * 31 + site.ofCrane(crane, what);
            }
            for (int motion = 0; motion <= 6; motion++) {
                d = d * 31 + site.would(crane, motion);
            }
            d = d * 31 + site.field(crane);
            d = d * 31 + site.swing(crane, false);
            d = d * 31 + site.swing(crane, true);
        }
        for (int load = 0; load < site.many(4); load++) {
            for (int what = 0; what <= 3; what++) {
                d = d * 31 + site.ofLoad(load, what);
            }
        }
        return d * 31 + (site.isSound() ? 1 : 0);
    }
}
