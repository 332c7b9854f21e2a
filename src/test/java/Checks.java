/** What the tests share: checks that count, and that tell the line of a wrong answer. */
abstract class Checks {
    interface Call {
        Object make();
    }

    private static int made = 0;
    private static int wrong = 0;

    static void is(Object want, Object got) {
        made++;
        if (!String.valueOf(want).equals(String.valueOf(got))) {
            tell("answered " + got + ", due is " + want);
        }
    }

    static void index(Call call) {
        fails(IndexOutOfBoundsException.class, call);
    }

    static void argument(Call call) {
        fails(IllegalArgumentException.class, call);
    }

    static void state(Call call) {
        fails(IllegalStateException.class, call);
    }

    /** The class has to be just that one: what the machine itself throws is a class below it. */
    private static void fails(Class<?> want, Call call) {
        made++;
        String got = "nothing";
        try {
            call.make();
        } catch (RuntimeException e) {
            got = thrown(e);
        }
        if (!got.equals(want.getName())) {
            tell("threw " + got + ", due is " + want.getName());
        }
    }

    /** The name of an exception, and where it comes from, if no throw of the tested code itself made it. */
    static String thrown(RuntimeException e) {
        StackTraceElement[] places = e.getStackTrace();
        String place = places.length == 0 ? "the machine" : places[0].getClassName();
        boolean isItsOwn = place.startsWith("Slewyard") || place.startsWith("Model");
        return isItsOwn ? e.getClass().getName() : e.getClass().getName() + " of " + place;
    }

    private static void tell(String what) {
        wrong++;
        StringBuilder lines = new StringBuilder();
        for (StackTraceElement place : new Throwable().getStackTrace()) {
            if (!place.getClassName().startsWith("Checks") && place.getFileName() != null) {
                lines.append(' ').append(place.getFileName()).append(':').append(place.getLineNumber());
            }
        }
        System.out.println(what + " at" + lines);
    }

    /** Closes a test's main method. */
    static void end(String name) {
        System.out.println(name + ": " + made + " checks, " + wrong + " wrong");
        if (wrong > 0 || made == 0) {
            System.exit(1);
        }
    }

    /** Takes the same STEP so many times, and checks that each is taken. */
    static void steps(Slewyard site, int crane, int motion, int times) {
        for (int k = 0; k < times; k++) {
            is(0, site.step(crane, motion));
        }
    }

    /** Many numbers as one text. */
    static String row(int... numbers) {
        StringBuilder text = new StringBuilder();
        for (int number : numbers) {
            text.append(text.length() == 0 ? "" : " ").append(number);
        }
        return text.toString();
    }

    /** ofCrane() from one what to another one, as one text. */
    static String ofCrane(Slewyard site, int crane, int first, int last) {
        int[] numbers = new int[last - first + 1];
        for (int what = first; what <= last; what++) {
            numbers[what - first] = site.ofCrane(crane, what);
        }
        return row(numbers);
    }

    /** All of many() as one text. */
    static String many(Slewyard site) {
        int[] numbers = new int[15];
        for (int what = 0; what < numbers.length; what++) {
            numbers[what] = site.many(what);
        }
        return row(numbers);
    }

    /** would() for each motion, as one text. */
    static String wouldAll(Slewyard site, int crane) {
        int[] answers = new int[7];
        for (int motion = 0; motion < answers.length; motion++) {
            answers[motion] = site.would(crane, motion);
        }
        return row(answers);
    }
}
