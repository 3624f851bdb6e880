/** What the tests share: they count answers and refusals, and compare whole objects. */
abstract class Checks {
    static final int NONE = MarkArenas.NONE;
    static final String INDEX = "IndexOutOfBoundsException";
    static final String ARGUMENT = "IllegalArgumentException";
    static final String STATE = "IllegalStateException";

    private static int passed = 0;
    private static int failed = 0;
    private static String place = "";
    private static String words = "";

    interface Answer {
        long get();
    }

    interface Made {
        MarkArenas now();
    }

    interface Call {
        long on(MarkArenas x);
    }

    /** From here on failures are told with this head of the document. */
    static void head(String name) {
        place = name;
        words = "";
    }

    /** From here on failures are told with these words of the document. */
    static void sentence(String quoted) {
        words = quoted;
    }

    private static String where() {
        return place + (words.isEmpty() ? "" : ", \"" + words + "\"") + (place.isEmpty() ? "" : ": ");
    }

    private static void hold(boolean holds, String fault) {
        if (holds) {
            passed++;
        } else {
            failed++;
            System.out.println(where() + fault);
        }
    }

    static void due(String what, long got, long want) {
        hold(got == want, what + " answered " + got + ", due is " + want);
    }

    static void dueShare(String what, double got, double want) {
        due(what, Double.doubleToRawLongBits(got), Double.doubleToRawLongBits(want));
    }

    private static String thrown(Answer answer) {
        try {
            answer.get();
        } catch (RuntimeException e) {
            return e.getClass().getSimpleName();
        }
        return "nothing";
    }

    /** The call throws this, and the digest of the object stays as it was. */
    static void refused(String what, MarkArenas x, String wanted, Answer answer) {
        long before = x.digest();
        String got = thrown(answer);
        hold(got.equals(wanted), what + " threw " + got + ", due is " + wanted);
        hold(x.digest() == before, what + " changed something");
    }

    /** The call throws this on a new object; all of it, the saved states too, stays as it was. */
    static void refused(String what, Made made, String wanted, Call call) {
        MarkArenas x = made.now();
        String got = thrown(() -> call.on(x));
        hold(got.equals(wanted), what + " threw " + got + ", due is " + wanted);
        hold(whole(x).equals(whole(made.now())), what + " changed something");
    }

    static void answers(String what, Made made, Call call, long want) {
        MarkArenas x = made.now();
        String got = thrown(() -> {
            due(what, call.on(x), want);
            return 0;
        });
        hold(got.equals("nothing"), what + " threw " + got);
    }

    /** The call answers, and all of the object stays as it was. */
    static void changesNothing(String what, Made made, Call call) {
        MarkArenas x = made.now();
        String got = thrown(() -> call.on(x));
        hold(got.equals("nothing"), what + " threw " + got);
        hold(whole(x).equals(whole(made.now())), what + " changed something");
    }

    /** The call saves one state, and undo brings all back from before it; for up to 5 saved. */
    static void undoable(String what, Made made, Call call) {
        MarkArenas x = made.now();
        MarkArenas untouched = made.now();
        int saved = x.count(10);
        hold(saved < 6, what + ": a test of undo begins with at most 5 saved states");
        String got = thrown(() -> call.on(x));
        hold(got.equals("nothing"), what + " threw " + got);
        due(what + ": saved states", x.count(10), saved + 1);
        due(what + ": undo", x.undo(), saved);
        x.clearBuffer();
        untouched.clearBuffer();
        hold(whole(x).equals(whole(untouched)), what + " was not undone as a whole");
    }

    /** The digests of the object and of all its saved states; none of these is left then. */
    static String whole(MarkArenas x) {
        StringBuilder all = new StringBuilder();
        all.append(x.digest());
        for (int left = x.count(10); left > 0; left--) {
            all.append(" ").append(x.undo()).append(" ").append(x.digest());
        }
        return all.toString();
    }

    static MarkArenas opened(int arenas) {
        MarkArenas x = new MarkArenas();
        for (int i = 0; i < arenas; i++) {
            x.open();
        }
        return x;
    }

    static void makeMany(MarkArenas x, int arena, int number, int size) {
        for (int i = 0; i < number; i++) {
            x.make(arena, size);
        }
    }

    static void type(MarkArenas x, String text) {
        for (int i = 0; i < text.length(); i++) {
            x.append(text.charAt(i));
        }
    }

    static MarkArenas typed(String text) {
        MarkArenas x = new MarkArenas();
        type(x, text);
        return x;
    }

    static int errorOf(String text) {
        return typed(text).firstError();
    }

    static int madeOf(MarkArenas x, int arena, String text) {
        type(x, text);
        return x.makeAll(arena);
    }

    /** The hash that promise 25 tells, by the answers of all other calls. */
    static long digestOf(MarkArenas x, String buffer) {
        long hash = 2741;
        for (int what = 0; what < 11; what++) {
            hash = 31 * hash + x.count(what);
        }
        hash = 31 * (31 * hash + x.setting(0)) + x.setting(1);
        for (int number = 0; number < 24; number++) {
            hash = withObject(hash, x, number);
        }
        for (int arena = 0; arena < 6; arena++) {
            for (int what = 0; what < 8; what++) {
                hash = 31 * hash + x.arena(arena, what);
            }
            hash = 31 * hash + x.whyNot(arena, 1);
        }
        hash = 31 * hash + x.best();
        hash = 31 * hash + Double.doubleToLongBits(x.livingShare());
        hash = 31 * hash + buffer.length();
        for (int i = 0; i < buffer.length(); i++) {
            hash = 31 * hash + buffer.charAt(i);
        }
        return hash;
    }

    private static long withObject(long before, MarkArenas x, int number) {
        if (!thrown(() -> x.object(number, 0)).equals("nothing")) {
            return before;
        }
        long hash = 31 * before + number;
        for (int what = 0; what < 12; what++) {
            hash = 31 * hash + x.object(number, what);
        }
        return 31 * (31 * hash + x.ifGiven(number, 0)) + x.ifLost(number);
    }

    /** The digest, with an empty buffer, less what the number of saved states adds to it. */
    static long withoutSaved(MarkArenas x) {
        long factor = 1;
        int valuesBehind = 2 + 15 * x.count(0) + 9 * 6 + 3;
        for (int value = 0; value < valuesBehind; value++) {
            factor *= 31;
        }
        return x.digest() - factor * x.count(10);
    }

    static void end(String name) {
        System.out.println(name + ": " + passed + " as due, " + failed + " not");
        if (failed != 0) {
            System.exit(1);
        }
    }
}
