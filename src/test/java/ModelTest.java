import java.util.Random;

/** Long runs of mixed calls, the same on the class and on the model; each answer has to be the same. */
final class ModelTest extends Checks {
    private static final int RUNS = 1500;
    private static final int CALLS = 500;
    private static final String[] NAMES = {"yard", "level", "wind", "zone", "load", "crane", "step", "hang", "set",
        "hand", "rest", "ofCrane", "ofLoad", "ofCell", "would", "clash", "way", "field", "swing", "order", "many",
        "drawn", "isSound", "knock", "digest"};
    /** A kind of run each: busy in calm air, storms, until time ends, with little rest. */
    private static final int[][] ODDS = {
        {0, 5, 2, 2, 8, 5, 80, 14, 6, 10, 1, 4, 4, 4, 8, 4, 6, 3, 3, 2, 6, 4, 1, 1, 3},
        {0, 3, 4, 2, 8, 6, 40, 10, 4, 10, 15, 4, 4, 4, 8, 8, 6, 3, 3, 2, 6, 4, 1, 1, 5},
        {0, 5, 2, 2, 8, 5, 50, 10, 6, 8, 8, 4, 4, 4, 8, 4, 6, 3, 3, 2, 6, 4, 1, 1, 3},
        {0, 5, 1, 2, 8, 5, 90, 14, 5, 10, 0, 4, 4, 4, 8, 4, 6, 3, 3, 2, 6, 4, 1, 1, 3},
    };
    private static final int[] WILD = {Integer.MIN_VALUE, Integer.MAX_VALUE, -2, -1, 1 << 30, 65536, 200, 15, 8, 7, 5};

    private static final int[] reasons = new int[8];
    private static final int[] done = new int[NAMES.length];
    private static int turned = 0;
    private static int missed = 0;
    private static int clashed = 0;
    private static int last = 0;

    private final Random random;
    private final Slewyard site = new Slewyard();
    private final Model model = new Model();

    private final int kind;
    private final StringBuilder story = new StringBuilder();
    private int calls = 0;
    private boolean isSame = true;

    private ModelTest(int run) {
        random = new Random(run);
        kind = run % ODDS.length;
    }

    public static void main(String[] args) {
        for (int run = 0; run < RUNS; run++) {
            new ModelTest(run).run(run);
        }
        // Should the runs ever miss what is rare, their sameness would prove little.
        for (int times : reasons) {
            is(true, times > 300);
        }
        is(true, done[7] > 1000 && done[8] > 500 && done[9] > 200);
        is(true, turned > 1000 && missed > 10000 && clashed > 80 && last > 10);
        end("ModelTest");
    }

    private void run(int run) {
        if (kind == 0) {
            meet();
        }
        while (calls < CALLS && isSame) {
            int which = calls == 3 || random.nextInt(600) == 0 ? 0 : drawnLots();
            compare(which, arguments(which));
        }
        is(model.digest(), site.digest());
        for (int row = 0; row < model.high; row++) {
            is(model.drawn(row), site.drawn(row));
        }
        if (!isSame) {
            System.out.println("run " + run + "\n" + story);
        }
        missed += model.many(9);
        clashed += model.many(8);
        last += model.time == 600 ? 1 : 0;
    }

    private void compare(int which, int[] a) {
        String want = answer(() -> onModel(which, a));
        String got = answer(() -> onSite(which, a));
        story.append(NAMES[which]).append('(').append(row(a)).append(") ").append(got).append('\n');
        is(want, got);
        isSame = want.equals(got);
        calls++;
        count(which, got);
    }

    private void compare(int times, int crane, int motion) {
        for (int k = 0; k < times; k++) {
            compare(6, new int[] {crane, motion});
        }
    }

    /** Two CRANES whose HOOKS can come together, and a LOAD: by chance that hardly comes about. */
    private void meet() {
        int reach = 2 + upTo(3);
        int reachBack = 2 + upTo(3);
        int mast = 4 + upTo(5);
        int mastBack = Math.max(4, mast - 2 + upTo(4));
        int corner = 14 * upTo(5);
        compare(0, new int[] {14, 6});
        compare(5, new int[] {corner + 1, mast, reach, 60 + upTo(200), 2});
        compare(5, new int[] {corner + 3 + reach + reachBack, mastBack, reachBack, 10 + upTo(200), 6});
        compare(4, new int[] {corner + 2, 1 + upTo(29)});
        compare(mast - 2, 0, 5);
        compare(7, new int[] {0});
        compare(1, 0, 4);
        compare(reach - 1, 0, 2);
        compare(reachBack - 1, 1, 2);
        compare(mastBack - 3 - upTo(1), 1, 5);
        compare(9, new int[] {0, 1});
    }

    private static void count(int which, String got) {
        boolean isNumber = got.matches("-?[0-9]+");
        if (isNumber && which == 6) {
            reasons[Integer.parseInt(got)]++;
        }
        if (isNumber && which == 10) {
            turned += Integer.parseInt(got);
        }
        done[which] += isNumber && !got.equals("-1") ? 1 : 0;
    }

    private static String answer(Call call) {
        try {
            return String.valueOf(call.make());
        } catch (RuntimeException e) {
            return thrown(e);
        }
    }

    private int drawnLots() {
        int sum = 0;
        for (int odds : ODDS[kind]) {
            sum += odds;
        }
        int lot = random.nextInt(sum);
        for (int k = 0; k < ODDS[kind].length; k++) {
            lot -= ODDS[kind][k];
            if (lot < 0) {
                return k;
            }
        }
        return 0;
    }

    private int upTo(int most) {
        return random.nextInt(most + 1);
    }

    private int oneCell() {
        if (!model.cranes.isEmpty() && random.nextInt(3) == 0) {
            Model.Jib c = model.cranes.get(random.nextInt(model.cranes.size()));
            int cell = model.along(c, upTo(7), 1 + upTo(2));
            return random.nextBoolean() || cell < 0 ? model.plumb(c) : cell;
        }
        return upTo(Math.max(0, model.levels.length - 1));
    }

    private int oneCrane() {
        return upTo(Math.max(0, model.cranes.size() - 1));
    }

    /** Mostly such as fit; one of them is wild now and then. */
    private int[] arguments(int which) {
        int[] a = fitting(which);
        if (a.length > 0 && random.nextInt(25) == 0) {
            a[random.nextInt(a.length)] = WILD[random.nextInt(WILD.length)];
        }
        return a;
    }

    private int[] fitting(int which) {
        switch (which) {
            case 0: return new int[] {6 + upTo(8), 6 + upTo(8)};
            case 1: return new int[] {oneCell(), upTo(random.nextInt(3) == 0 ? 20 : 4)};
            case 2: return new int[] {upTo(random.nextBoolean() ? 600 : 100), oneForce(), upTo(7)};
            case 3: return new int[] {oneCell(), 1 + upTo(4), 1 + upTo(4), upTo(23), upTo(23)};
            case 4: return new int[] {oneCell(), 1 + upTo(random.nextBoolean() ? 59 : 15)};
            case 5: return new int[] {upTo(Math.max(0, model.levels.length - 1)), 3 + upTo(random.nextBoolean() ? 27 : 5),
                2 + upTo(random.nextBoolean() || kind == 1 ? 7 : 3), 5 + upTo(random.nextBoolean() ? 395 : 75), upTo(7)};
            case 6:
                int crane = oneCrane();
                return new int[] {crane, motion(crane)};
            case 7: case 8: case 17: return new int[] {oneCrane()};
            case 9: case 15: return new int[] {oneCrane(), oneCrane()};
            case 10: return new int[] {1 + upTo(random.nextInt(4) == 0 && kind == 2 ? 99 : 4)};
            case 11: return new int[] {oneCrane(), upTo(14)};
            case 12: return new int[] {upTo(Math.max(0, model.loads.size() - 1)), upTo(3)};
            case 13: return new int[] {oneCell(), upTo(4)};
            case 14: return new int[] {oneCrane(), upTo(6)};
            case 16: return new int[] {oneCrane(), oneCell()};
            case 18: return new int[] {oneCrane(), upTo(1)};
            case 19: return new int[] {upTo(4)};
            case 20: return new int[] {upTo(14)};
            case 21: return new int[] {upTo(13)};
            default: return new int[] {};
        }
    }

    private int oneForce() {
        return kind == 1 ? 5 + upTo(4) : upTo(random.nextInt(4) == 0 ? 9 : 6);
    }

    /** Down to a LOAD and away with it more often than by chance: else hardly one ever hangs. */
    private int motion(int crane) {
        if (crane < model.cranes.size()) {
            Model.Jib c = model.cranes.get(crane);
            if (c.load >= 0) {
                return new int[] {0, 0, 1, 1, 2, 2, 2, 3, 4, 4, 5, 5, 6, 4}[upTo(kind == 3 ? 11 : 13)];
            }
            if (!model.lying(model.plumb(c)).isEmpty() && random.nextInt(5) > 0) {
                return c.hook > model.levels[model.plumb(c)] + 1 ? 5 : 6;
            }
        }
        return new int[] {0, 0, 1, 1, 2, 2, 3, 4, 5, 5, 5, 6}[upTo(kind == 3 ? 10 : 11)];
    }

    private Object onSite(int which, int[] a) {
        switch (which) {
            case 0: return site.yard(a[0], a[1]);
            case 1: return site.level(a[0], a[1]);
            case 2: return site.wind(a[0], a[1], a[2]);
            case 3: return site.zone(a[0], a[1], a[2], a[3], a[4]);
            case 4: return site.load(a[0], a[1]);
            case 5: return site.crane(a[0], a[1], a[2], a[3], a[4]);
            case 6: return site.step(a[0], a[1]);
            case 7: return site.hang(a[0]);
            case 8: return site.set(a[0]);
            case 9: return site.hand(a[0], a[1]);
            case 10: return site.rest(a[0]);
            case 11: return site.ofCrane(a[0], a[1]);
            case 12: return site.ofLoad(a[0], a[1]);
            case 13: return site.ofCell(a[0], a[1]);
            case 14: return site.would(a[0], a[1]);
            case 15: return site.clash(a[0], a[1]);
            case 16: return site.way(a[0], a[1]);
            case 17: return site.field(a[0]);
            case 18: return site.swing(a[0], a[1] == 1);
            case 19: return site.order(a[0]);
            case 20: return site.many(a[0]);
            case 21: return site.drawn(a[0]);
            case 22: return site.isSound();
            case 23: return site.knock();
            default: return site.digest();
        }
    }

    private Object onModel(int which, int[] a) {
        switch (which) {
            case 0: return model.yard(a[0], a[1]);
            case 1: return model.level(a[0], a[1]);
            case 2: return model.wind(a[0], a[1], a[2]);
            case 3: return model.zone(a[0], a[1], a[2], a[3], a[4]);
            case 4: return model.load(a[0], a[1]);
            case 5: return model.crane(a[0], a[1], a[2], a[3], a[4]);
            case 6: return model.step(a[0], a[1]);
            case 7: return model.hang(a[0]);
            case 8: return model.set(a[0]);
            case 9: return model.hand(a[0], a[1]);
            case 10: return model.rest(a[0]);
            case 11: return model.ofCrane(a[0], a[1]);
            case 12: return model.ofLoad(a[0], a[1]);
            case 13: return model.ofCell(a[0], a[1]);
            case 14: return model.would(a[0], a[1]);
            case 15: return model.clash(a[0], a[1]);
            case 16: return model.way(a[0], a[1]);
            case 17: return model.field(a[0]);
            case 18: return model.swing(a[0], a[1] == 1);
            case 19: return model.order(a[0]);
            case 20: return model.many(a[0]);
            case 21: return model.drawn(a[0]);
            case 22: return model.isSound();
            case 23: return model.knock();
            default: return model.digest();
        }
    }
}
