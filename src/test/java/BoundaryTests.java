import java.math.BigInteger;

/** The promises 1 to 25: for each sentence that names a boundary case, that very case. */
public final class BoundaryTests extends Checks {
    private static final int LEAST = Integer.MIN_VALUE;
    private static final int MOST = Integer.MAX_VALUE;
    private static final int[] NO_ARENA = {-1, 6, LEAST, MOST};
    private static final int[] NO_OBJECT = {-1, 2, 23, 24, LEAST, MOST};

    /** Two objects, 0 and 1, and an open buffer; the arena 5 is free. */
    private static MarkArenas two() {
        MarkArenas x = opened(5);
        madeOf(x, 0, "3r;4<0");
        x.append('1');
        return x;
    }

    /** Two objects, 0 and 1, and few saved states. */
    private static MarkArenas small() {
        MarkArenas x = opened(2);
        madeOf(x, 0, "3r;4<0");
        return x;
    }

    /** The object 1 is gone, the objects 0 and 2 are not. */
    private static MarkArenas oneGone() {
        MarkArenas x = opened(3);
        x.make(0, 3);
        x.make(1, 4);
        x.make(0, 5);
        x.link(0, 0, 1);
        x.close(1);
        return x;
    }

    private static MarkArenas row(int arena, int number, int size) {
        MarkArenas x = opened(6);
        makeMany(x, arena, number, size);
        return x;
    }

    /** 64 cells in the arena 0, the last objects smaller; so many of its first cells live. */
    private static MarkArenas fullOf(int living) {
        MarkArenas x = opened(3);
        int left = living;
        while (left > 0) {
            int size = left < 16 ? left : 16;
            x.root(x.make(0, size), true);
            left -= size;
        }
        while (x.arena(0, 1) < 64) {
            int room = 64 - x.arena(0, 1);
            x.make(0, room < 16 ? room : 16);
        }
        return x;
    }

    private static MarkArenas andThen(Made made, Call call) {
        MarkArenas x = made.now();
        call.on(x);
        return x;
    }

    private static MarkArenas filled(int arena, int cells) {
        MarkArenas x = opened(6);
        for (int left = cells; left > 0; left -= 16) {
            x.make(arena, left < 16 ? left : 16);
        }
        return x;
    }

    // ---- arenas, objects

    private static void newObject() {
        head("Promise 1, MarkArenas()");
        sentence("Creates free arenas, with an empty buffer");
        for (int arena = 0; arena < 6; arena++) {
            int a = arena;
            answers("arena " + a + " is free", MarkArenas::new, x -> x.arena(a, 0), 0);
            answers("arena " + a + " was never opened", MarkArenas::new, x -> x.arena(a, 7), 0);
            answers("arena " + a + " has no mark", MarkArenas::new, x -> x.arena(a, 1), 0);
        }
        answers("the buffer has no character", MarkArenas::new, x -> x.clearBuffer(), 0);
        answers("the first character", MarkArenas::new, x -> x.append('1'), 1);
        answers("no objects", MarkArenas::new, x -> x.count(0), 0);
        answers("no saved states", MarkArenas::new, x -> x.count(10), 0);
        MarkArenas other = two();
        due("one object is not the other", new MarkArenas().count(2), 0);
        due("the other is as it was", other.count(2), 5);
    }

    private static void open() {
        head("Promise 2, open");
        sentence("Opens the free arena with the lowest number. Undoable");
        for (int number = 0; number < 6; number++) {
            int n = number;
            answers("with " + n + " open", () -> opened(n), x -> x.open(), n);
        }
        Made gaps = () -> {
            MarkArenas x = opened(6);
            x.close(4);
            x.close(1);
            return x;
        };
        answers("the lowest of two", gaps, x -> x.open(), 1);
        answers("the one left", () -> andThen(gaps, x -> x.open()), x -> x.open(), 4);
        answers("the number 0 again", () -> andThen(() -> opened(6), x -> x.giveBack(0, 5)),
                x -> x.open(), 0);
        undoable("the first", MarkArenas::new, x -> x.open());
        undoable("the last", () -> opened(5), x -> x.open());
        sentence("Throws IllegalStateException if no arena is free");
        refused("with 6 open", () -> opened(6), STATE, x -> x.open());
        refused("with 2 opened again", () -> {
            MarkArenas x = gaps.now();
            x.open();
            x.open();
            return x;
        }, STATE, x -> x.open());
    }

    private static void make() {
        head("Promise 3, make");
        sentence("Makes an object, with fields without references. Undoable");
        answers("the field 0", () -> andThen(BoundaryTests::two, x -> x.make(1, 1)),
                x -> x.object(2, 3), NONE);
        answers("the field 1", () -> andThen(BoundaryTests::two, x -> x.make(1, 1)),
                x -> x.object(2, 4), NONE);
        Made again = () -> {
            MarkArenas x = opened(2);
            x.make(0, 1);
            x.make(1, 1);
            x.link(0, 0, 1);
            x.link(0, 1, 0);
            x.link(1, 0, 0);
            x.pin(0, true);
            x.close(0);
            x.make(1, 1);
            return x;
        };
        for (int what = 3; what <= 10; what++) {
            int w = what;
            answers("a number used again, object(0, " + w + ")", again, x -> x.object(0, w),
                    w < 5 ? NONE : 0);
        }
        undoable("the first", () -> opened(1), x -> x.make(0, 1));
        undoable("the last", () -> undone(row(0, 24, 1), 2), x -> x.make(0, 1));
        sentence("arena: 0 to 5");
        answers("arena 0", () -> opened(6), x -> x.make(0, 1), 0);
        answers("arena 5", () -> opened(6), x -> x.make(5, 1), 0);
        sentence("Throws IndexOutOfBoundsException if there is no such arena");
        for (int arena : NO_ARENA) {
            refused("arena " + arena, () -> opened(6), INDEX, x -> x.make(arena, 1));
            refused("arena " + arena + ", size 0", () -> opened(6), INDEX, x -> x.make(arena, 0));
        }
        sentence("Throws IllegalArgumentException if size is out of range");
        for (int size = 1; size <= 16; size++) {
            int s = size;
            answers("size " + s, BoundaryTests::two, x -> x.make(1, s), 2);
        }
        for (int size : new int[] {0, -1, 17, LEAST, MOST}) {
            refused("size " + size, () -> opened(6), ARGUMENT, x -> x.make(0, size));
            refused("size " + size + ", a free arena", () -> opened(1), ARGUMENT,
                    x -> x.make(1, size));
            refused("size " + size + ", no number", () -> row(0, 24, 1), ARGUMENT,
                    x -> x.make(0, size));
        }
        makeRefused();
    }

    private static MarkArenas undone(MarkArenas x, int times) {
        for (int i = 0; i < times; i++) {
            x.undo();
        }
        return x;
    }

    private static void makeRefused() {
        sentence("Throws IllegalStateException if the arena is not open, has not so many cells"
                + " behind its mark, or there are 24 objects");
        refused("a free arena", () -> opened(5), STATE, x -> x.make(5, 1));
        refused("none is open", MarkArenas::new, STATE, x -> x.make(0, 1));
        refused("a returned arena", BoundaryTests::oneGone, STATE, x -> x.make(1, 1));
        for (int size = 1; size <= 16; size++) {
            int s = size;
            answers("size " + s + " with so many cells", () -> filled(2, 64 - s),
                    x -> x.make(2, s), (64 - s + 15) / 16);
            refused("size " + s + " with one less", () -> filled(2, 65 - s), STATE,
                    x -> x.make(2, s));
        }
        answers("a 24th", () -> row(0, 23, 1), x -> x.make(5, 16), 23);
        refused("a 25th", () -> row(0, 24, 1), STATE, x -> x.make(5, 1));
        answers("one of 24 is gone", () -> {
            MarkArenas x = row(0, 23, 1);
            x.make(1, 1);
            x.root(0, true);
            x.giveBack(0, 2);
            return x;
        }, x -> x.make(5, 1), 1);
    }

    private static void link() {
        head("Promise 4, link");
        sentence("Changes a field. Undoable. .. Returns the previous reference, NONE if there"
                + " was none");
        answers("none before, field 0", BoundaryTests::two, x -> x.link(1, 0, 0), NONE);
        answers("none before, field 1", BoundaryTests::two, x -> x.link(0, 1, 0), NONE);
        answers("one before", BoundaryTests::two, x -> x.link(0, 0, NONE), 1);
        answers("one before, the object 0", () -> andThen(BoundaryTests::two,
                x -> x.link(1, 1, 0)), x -> x.link(1, 1, 1), 0);
        answers("one that is gone", BoundaryTests::oneGone, x -> x.link(0, 0, 2), NONE);
        undoable("one for another", BoundaryTests::small, x -> x.link(0, 0, 0));
        undoable("one for none", BoundaryTests::small, x -> x.link(0, 0, NONE));
        undoable("one for the same", BoundaryTests::small, x -> x.link(0, 0, 1));
        sentence("field: 0 or 1");
        answers("the field 0 alone", () -> andThen(BoundaryTests::two, x -> x.link(1, 0, 0)),
                x -> x.object(1, 4), NONE);
        answers("the field 1 alone", () -> andThen(BoundaryTests::two, x -> x.link(1, 1, 0)),
                x -> x.object(1, 3), NONE);
        for (int field : new int[] {-1, 2, LEAST, MOST}) {
            refused("field " + field, BoundaryTests::two, INDEX, x -> x.link(0, field, 1));
            refused("field " + field + " of the last", BoundaryTests::two, INDEX,
                    x -> x.link(1, field, NONE));
        }
        sentence("to: the number of an object, perhaps the same, or NONE");
        answers("the same", () -> andThen(BoundaryTests::two, x -> x.link(1, 1, 1)),
                x -> x.object(1, 4), 1);
        answers("NONE", () -> andThen(BoundaryTests::two, x -> x.link(0, 0, NONE)),
                x -> x.object(0, 3), NONE);
        answers("the object 23", () -> row(3, 24, 1), x -> {
            x.link(23, 1, 23);
            return x.object(23, 4);
        }, 23);
        for (int to : new int[] {-2, 2, 23, 24, LEAST, MOST}) {
            refused("to " + to, BoundaryTests::two, INDEX, x -> x.link(0, 0, to));
        }
        refused("to one that is gone", BoundaryTests::oneGone, INDEX, x -> x.link(0, 0, 1));
        sentence("Throws IndexOutOfBoundsException if there is no such object");
        for (int object : NO_OBJECT) {
            refused("object " + object, BoundaryTests::two, INDEX, x -> x.link(object, 0, 0));
            refused("object " + object + ", NONE", BoundaryTests::two, INDEX,
                    x -> x.link(object, 0, NONE));
        }
        refused("one that is gone", BoundaryTests::oneGone, INDEX, x -> x.link(1, 0, NONE));
    }

    private static void root() {
        head("Promise 5, root");
        sentence("Makes an object a root, or none. .. Returns 1 if it was a root, otherwise 0");
        answers("a root stays one", BoundaryTests::two, x -> x.root(0, true), 1);
        answers("a root no more", BoundaryTests::two, x -> x.root(0, false), 1);
        answers("none becomes one", BoundaryTests::two, x -> x.root(1, true), 0);
        answers("none stays none", BoundaryTests::two, x -> x.root(1, false), 0);
        for (int was = 0; was < 2; was++) {
            int number = 1 - was;
            answers("from " + was + " to 1", () -> andThen(BoundaryTests::two,
                    x -> x.root(number, true)), x -> x.object(number, 5), 1);
            answers("from " + was + " to 0", () -> andThen(BoundaryTests::two,
                    x -> x.root(number, false)), x -> x.object(number, 5), 0);
        }
        answers("the other stays none", () -> andThen(BoundaryTests::two, x -> x.root(0, true)),
                x -> x.object(1, 5), 0);
        answers("the object 23", () -> row(0, 24, 1), x -> x.root(23, true), 0);
        sentence("Throws IndexOutOfBoundsException if there is no such object");
        for (int object : NO_OBJECT) {
            refused("object " + object, BoundaryTests::two, INDEX, x -> x.root(object, true));
            refused("object " + object + ", none", BoundaryTests::two, INDEX,
                    x -> x.root(object, false));
        }
        refused("one that is gone", BoundaryTests::oneGone, INDEX, x -> x.root(1, true));
    }

    private static void pin() {
        head("Promise 6, pin");
        sentence("Pins an object, or does not. .. Returns how many objects of its arena are"
                + " pinned then");
        answers("the first", BoundaryTests::two, x -> x.pin(0, true), 1);
        answers("none stays none", BoundaryTests::two, x -> x.pin(0, false), 0);
        answers("the only one no more", () -> andThen(BoundaryTests::two, x -> x.pin(0, true)),
                x -> x.pin(0, false), 0);
        answers("one that is pinned", () -> andThen(BoundaryTests::two, x -> x.pin(0, true)),
                x -> x.pin(0, true), 1);
        answers("another one", () -> andThen(BoundaryTests::two, x -> x.pin(0, true)),
                x -> x.pin(1, true), 2);
        answers("another one is pinned, this one is not", () -> andThen(BoundaryTests::two,
                x -> x.pin(0, true)), x -> x.pin(1, false), 1);
        Made allPinned = () -> {
            MarkArenas x = row(4, 23, 1);
            x.make(5, 1);
            for (int number = 0; number < 22; number++) {
                x.pin(number, true);
            }
            return x;
        };
        answers("all 23 of an arena", allPinned, x -> x.pin(22, true), 23);
        answers("one of another arena", allPinned, x -> x.pin(23, true), 1);
        answers("none of another arena", allPinned, x -> x.pin(23, false), 0);
        sentence("Throws IndexOutOfBoundsException if there is no such object");
        for (int object : NO_OBJECT) {
            refused("object " + object, BoundaryTests::two, INDEX, x -> x.pin(object, true));
        }
        refused("one that is gone", BoundaryTests::oneGone, INDEX, x -> x.pin(1, true));
    }

    private static void giveBack() {
        head("Promise 7, giveBack");
        sentence("Returns an arena into another one. .. Returns how many objects survive");
        answers("none of none", () -> opened(2), x -> x.giveBack(0, 1), 0);
        answers("none of two", () -> andThen(BoundaryTests::two, x -> x.root(0, false)),
                x -> x.giveBack(0, 1), 0);
        answers("one of two", () -> andThen(BoundaryTests::two, x -> x.link(0, 0, NONE)),
                x -> x.giveBack(0, 1), 1);
        answers("two of two", BoundaryTests::two, x -> x.giveBack(0, 1), 2);
        answers("24 of 24", () -> allRoots(row(5, 24, 1)), x -> x.giveBack(5, 0), 24);
        sentence("arena: 0 to 5 .. into: 0 to 5, another one");
        for (int arena = 0; arena < 6; arena++) {
            for (int into = 0; into < 6; into++) {
                int a = arena;
                int i = into;
                if (a != i) {
                    answers(a + " into " + i, () -> allRoots(row(a, 2, 3)), x -> x.giveBack(a, i), 2);
                } else {
                    refused(a + " into itself", () -> row(a, 2, 3), ARGUMENT, x -> x.giveBack(a, a));
                    refused(a + " into itself, free", MarkArenas::new, ARGUMENT,
                            x -> x.giveBack(a, a));
                }
            }
        }
        refused("a kept one into itself", BoundaryTests::kept, ARGUMENT, x -> x.giveBack(0, 0));
        sentence("Throws IndexOutOfBoundsException if there is no such arena");
        for (int arena : NO_ARENA) {
            refused(arena + " into 1", BoundaryTests::two, INDEX, x -> x.giveBack(arena, 1));
            refused("0 into " + arena, BoundaryTests::two, INDEX, x -> x.giveBack(0, arena));
            refused(arena + " into itself", BoundaryTests::two, INDEX,
                    x -> x.giveBack(arena, arena));
            refused(arena + " into a free one", BoundaryTests::two, INDEX,
                    x -> x.giveBack(arena, 5));
        }
        giveBackRefused();
    }

    private static MarkArenas allRoots(MarkArenas x) {
        for (int number = x.count(0) - 1; number >= 0; number--) {
            x.root(number, true);
        }
        return x;
    }

    private static MarkArenas kept() {
        MarkArenas x = opened(4);
        x.make(0, 16);
        x.root(0, true);
        x.pin(0, true);
        return x;
    }

    private static void giveBackRefused() {
        sentence("Throws IllegalStateException if one of both is not open, the arena is kept, or"
                + " the survivors have no room behind the mark");
        refused("the first is free", BoundaryTests::two, STATE, x -> x.giveBack(5, 0));
        refused("the second is free", BoundaryTests::two, STATE, x -> x.giveBack(0, 5));
        refused("both are free", BoundaryTests::kept, STATE, x -> x.giveBack(4, 5));
        refused("it was returned already", () -> andThen(BoundaryTests::two,
                x -> x.giveBack(0, 1)), STATE, x -> x.giveBack(0, 1));
        refused("the second was returned", () -> andThen(BoundaryTests::two,
                x -> x.close(1)), STATE, x -> x.giveBack(0, 1));
        refused("kept", BoundaryTests::kept, STATE, x -> x.giveBack(0, 1));
        answers("kept is the second", BoundaryTests::kept, x -> x.giveBack(1, 0), 0);
        answers("pinned, but not surviving", () -> andThen(BoundaryTests::kept,
                x -> x.root(0, false)), x -> x.giveBack(0, 1), 0);
        for (int cells = 0; cells <= 64; cells += 4) {
            Made full = roomFor(cells, 64 - cells);
            answers(cells + " cells, just room for them", full, x -> x.giveBack(0, 1),
                    (cells + 15) / 16);
            if (cells > 0) {
                refused(cells + " cells, room for one less", roomFor(cells, 65 - cells), STATE,
                        x -> x.giveBack(0, 1));
            }
        }
        answers("more objects than room, but they do not survive", () -> {
            MarkArenas x = roomFor(1, 63).now();
            makeMany(x, 0, 3, 16);
            return x;
        }, x -> x.giveBack(0, 1), 1);
    }

    /** The arena 0 with so many living cells, the arena 1 with such a mark. */
    private static Made roomFor(int living, int mark) {
        return () -> {
            MarkArenas x = opened(2);
            for (int left = living; left > 0; left -= 16) {
                x.root(x.make(0, left < 16 ? left : 16), true);
            }
            for (int left = mark; left > 0; left -= 16) {
                x.make(1, left < 16 ? left : 16);
            }
            return x;
        };
    }

    private static void close() {
        head("Promise 8, close");
        sentence("Returns an arena none of whose objects survives. .. Returns how many objects"
                + " are gone");
        answers("none", () -> opened(1), x -> x.close(0), 0);
        answers("none, while others are there", BoundaryTests::two, x -> x.close(4), 0);
        answers("one", () -> row(5, 1, 16), x -> x.close(5), 1);
        answers("24", () -> row(0, 24, 1), x -> x.close(0), 24);
        answers("one that is pinned", () -> andThen(() -> row(0, 2, 1), x -> x.pin(1, true)),
                x -> x.close(0), 2);
        answers("a ring", () -> {
            MarkArenas x = row(0, 2, 1);
            x.link(0, 0, 1);
            x.link(1, 0, 0);
            return x;
        }, x -> x.close(0), 2);
        answers("it counts as returned", () -> andThen(() -> opened(1), x -> x.close(0)),
                x -> x.count(9), 1);
        sentence("Throws IndexOutOfBoundsException if there is no such arena");
        for (int arena : NO_ARENA) {
            refused("arena " + arena, BoundaryTests::two, INDEX, x -> x.close(arena));
        }
        sentence("Throws IllegalStateException if it is not open, or an object of it survives");
        refused("a free one", BoundaryTests::two, STATE, x -> x.close(5));
        refused("one that was closed", () -> andThen(BoundaryTests::two, x -> x.close(1)), STATE,
                x -> x.close(1));
        for (int number = 0; number < 24; number += 23) {
            int n = number;
            refused("one of 24 survives, " + n, () -> andThen(() -> row(0, 24, 1),
                    x -> x.root(n, true)), STATE, x -> x.close(0));
        }
        Made led = () -> {
            MarkArenas x = row(0, 2, 1);
            x.make(1, 1);
            x.link(2, 1, 1);
            return x;
        };
        answers("referred to by one that does not live", led, x -> x.close(0), 2);
        refused("referred to by one that lives", () -> andThen(led, x -> x.root(2, true)), STATE,
                x -> x.close(0));
        refused("remembered", () -> andThen(led, x -> x.set(0, 1)), STATE, x -> x.close(0));
        answers("its holder, which nothing remembers", () -> andThen(led, x -> x.set(0, 1)),
                x -> x.close(1), 1);
    }

    private static void set() {
        head("Promise 9, set");
        sentence("Changes a setting. .. Returns the previous value");
        answers("0 before", MarkArenas::new, x -> x.set(1, 2), 0);
        answers("2 before", () -> andThen(MarkArenas::new, x -> x.set(1, 2)), x -> x.set(1, 0), 2);
        answers("1 before", () -> andThen(MarkArenas::new, x -> x.set(0, 1)), x -> x.set(0, 1), 1);
        answers("the other setting stays", () -> andThen(MarkArenas::new, x -> x.set(0, 1)),
                x -> x.setting(1), 0);
        sentence("Throws IndexOutOfBoundsException if there is no such setting");
        for (int setting : new int[] {-1, 2, LEAST, MOST}) {
            refused("setting " + setting, BoundaryTests::two, INDEX, x -> x.set(setting, 0));
            refused("setting " + setting + ", a wrong value", BoundaryTests::two, INDEX,
                    x -> x.set(setting, 3));
        }
        sentence("Throws IllegalArgumentException if value is out of range");
        for (int value : new int[] {-1, 3, LEAST, MOST}) {
            refused("setting 0 as " + value, BoundaryTests::two, ARGUMENT, x -> x.set(0, value));
            refused("setting 1 as " + value, BoundaryTests::two, ARGUMENT, x -> x.set(1, value));
        }
        refused("setting 0 as 2", BoundaryTests::two, ARGUMENT, x -> x.set(0, 2));
        answers("setting 0 as 1", BoundaryTests::two, x -> x.set(0, 1), 0);
        answers("setting 1 as 2", BoundaryTests::two, x -> x.set(1, 2), 0);
    }

    // ---- texts

    private static final String SIXTY =
            "!1;2r<3x~1;2r<3x~1;2r<3x~1;2r<3x~1;2r<3x~1;2r<3x~1;2r<3x~1;2";

    private static void append() {
        head("Promise 10, append");
        sentence("Appends a character to the buffer. .. Returns the new length of the buffer");
        for (int length = 0; length < 60; length++) {
            int n = length;
            answers("behind " + n, () -> typed(SIXTY.substring(0, n)), x -> x.append('7'), n + 1);
        }
        answers("undo does not take it", () -> andThen(() -> opened(1), x -> x.append('7')), x -> {
            x.undo();
            return x.clearBuffer();
        }, 1);
        sentence("Throws IllegalArgumentException if code is not 33 to 126");
        for (int code = 33; code <= 126; code++) {
            int c = code;
            answers("code " + c, MarkArenas::new, x -> x.append(c), 1);
        }
        for (int code : new int[] {32, 127, 0, -1, 33 + 256, 65536 + 49, LEAST, MOST}) {
            refused("code " + code, BoundaryTests::two, ARGUMENT, x -> x.append(code));
            refused("code " + code + ", full", () -> typed(SIXTY), ARGUMENT, x -> x.append(code));
        }
        sentence("Throws IllegalStateException if the buffer has 60 characters");
        refused("code 33", () -> typed(SIXTY), STATE, x -> x.append(33));
        refused("code 126", () -> typed(SIXTY), STATE, x -> x.append(126));
    }

    private static void clearBuffer() {
        head("Promise 11, clearBuffer");
        sentence("Clears the buffer. Returns the length that it had");
        for (int length = 0; length <= 60; length++) {
            int n = length;
            Made made = () -> typed(SIXTY.substring(0, n));
            answers("of " + n, made, x -> x.clearBuffer(), n);
            answers("then it is empty", () -> andThen(made, x -> x.clearBuffer()),
                    x -> x.digest(), new MarkArenas().digest());
        }
        answers("appending goes on from there", () -> andThen(() -> typed("1;2"),
                x -> x.clearBuffer()), x -> x.append('x') + x.firstError(), 1);
        answers("undo does not bring it back", () -> andThen(BoundaryTests::two,
                x -> x.clearBuffer()), x -> {
            x.undo();
            return x.clearBuffer();
        }, 0);
    }

    private static void firstError() {
        head("Promise 12, firstError");
        sentence("Returns the index of the first character that is a syntax error; the length of"
                + " the buffer if there is none");
        answers("none of none", () -> typed(""), x -> x.firstError(), 0);
        answers("the only one", () -> typed("x"), x -> x.firstError(), 0);
        answers("none of one", () -> typed("1"), x -> x.firstError(), 1);
        String right = "16r<23;9;1<0;2r;10<19;3<20;11<9;4r<1;5<2;12;6;13r<10;7;14;8;1";
        for (int length = 0; length <= 60; length++) {
            String begun = right.substring(0, length);
            due("none of " + begun, errorOf(begun), length);
            if (length < 60) {
                due("the last one of " + begun + "!", errorOf(begun + "!"), length);
            }
            if (length < 59) {
                due("one behind an error, " + begun + "~1", errorOf(begun + "~1"), length);
            }
        }
        answers("what was there before it was cleared does not count", () -> {
            MarkArenas x = typed("1r<0;2;3");
            x.clearBuffer();
            x.append('1');
            return x;
        }, x -> x.firstError(), 1);
        changesNothing("with an error", () -> typed("1x1"), x -> x.firstError());
        changesNothing("without one", () -> typed("1r;"), x -> x.firstError());
    }

    private static Made textIn(Made made, String text) {
        return () -> {
            MarkArenas x = made.now();
            x.clearBuffer();
            type(x, text);
            return x;
        };
    }

    /** The objects of the text are made, so many of them; the buffer is cleared, one state saved. */
    private static MarkArenas dueMade(String what, Made made, int arena, String text, int want) {
        MarkArenas x = textIn(made, text).now();
        int objects = x.count(0);
        due(what + ": " + text, x.makeAll(arena), want);
        due(what + ": objects then", x.count(0), objects + want);
        due(what + ": the buffer then", x.clearBuffer(), 0);
        undoable(what + ": " + text, textIn(() -> undone(made.now(), 1), text),
                y -> y.makeAll(arena));
        return x;
    }

    private static MarkArenas dropOne(MarkArenas x) {
        x.set(0, 0);
        return x;
    }

    private static void makeAll() {
        head("Promise 13, makeAll");
        sentence("Makes the objects in the buffer in an arena, one after the other");
        MarkArenas x = dueMade("three", () -> dropOne(two()), 4, "2r;16<1;1r<0", 3);
        int[][] wanted = {{4, 0, 2, -1, -1, 1}, {4, 2, 16, -1, -1, 0}, {4, 18, 1, -1, -1, 1}};
        for (int number = 2; number < 5; number++) {
            for (int what = 0; what < 6; what++) {
                due("object(" + number + ", " + what + ")", x.object(number, what),
                        wanted[number - 2][what]);
            }
        }
        due("the field 0 of the object 1", x.object(1, 3), 3);
        due("the field 0 of the object 0", x.object(0, 3), 4);
        due("made so far", x.count(6), 5);
        dueMade("what was there before it was cleared is not made", () -> {
            MarkArenas y = opened(3);
            type(y, "1;2;3;4");
            y.clearBuffer();
            return dropOne(y);
        }, 0, "5", 1);
        answers("a second text behind the first", () -> andThen(() -> opened(1),
                y -> madeOf(y, 0, "1;2;3;4;5")), y -> madeOf(y, 0, "1r;1"), 2);
        sentence("up to the first one for which there is no room");
        for (int room = 0; room <= 16; room++) {
            int r = room;
            Made made = () -> dropOne(filled(5, 64 - r));
            dueMade("room for " + r, made, 5, "16", r < 16 ? 0 : 1);
            if (r > 1) {
                dueMade("room for " + r, made, 5, (r - 1) + ";1", 2);
                dueMade("room for " + r, made, 5, (r - 1) + ";2;1", 1);
                dueMade("room for " + r, made, 5, r + ";1;1", 1);
            }
        }
        dueMade("64 cells", () -> dropOne(opened(1)), 0, "16;16;16;16;1", 4);
        sentence("or no number");
        dueMade("a 24th", () -> dropOne(row(0, 22, 1)), 1, "1;1r", 2);
        dueMade("a 25th", () -> dropOne(row(0, 23, 1)), 1, "1;1;1", 1);
        dueMade("with 24", () -> dropOne(row(0, 24, 1)), 1, "1", 0);
        dueMade("24 from none", () -> dropOne(opened(1)), 0,
                "1;1;1;1;1;1;1;1;1;1;1;1;1;1;1;1;1;1;1;1;1;1;1;1;1;1;1;1;1;1", 24);
        MarkArenas full = dueMade("with 24 no field changes either", () -> dropOne(row(0, 24, 1)),
                1, "1<0", 0);
        due("no field changes", full.object(0, 3), NONE);
        makeAllHolders();
        makeAllRefused();
    }

    private static void makeAllHolders() {
        sentence("or whose \"<\" tells no object that there is then (the new one itself counts)");
        Made two = () -> dropOne(two());
        dueMade("the last one there is", two, 1, "1<1", 1);
        MarkArenas itself = dueMade("the new one itself", two, 1, "1<2", 1);
        due("it refers to itself", itself.object(2, 3), 2);
        dueMade("the one behind the new one", two, 1, "1<3", 0);
        dueMade("the one behind the new one, made later", two, 1, "1<3;1", 0);
        dueMade("the one before, made by the same text", two, 1, "1;1<2", 2);
        dueMade("one that comes later", two, 1, "1;1<4;1", 1);
        dueMade("the number 23", two, 1, "1<23", 0);
        MarkArenas last = dueMade("the number 23, itself", () -> dropOne(row(0, 23, 1)), 1,
                "1<23", 1);
        due("the number 23 refers to itself", last.object(23, 3), 23);
        Made gone = () -> dropOne(oneGone());
        MarkArenas again = dueMade("the number of one that is gone, the new one's", gone, 0, "1<1", 1);
        due("it refers to itself", again.object(1, 3), 1);
        dueMade("the number of one that is gone, not the new one's", () -> {
            MarkArenas x = opened(3);
            makeMany(x, 1, 2, 1);
            x.make(0, 1);
            x.close(1);
            return dropOne(x);
        }, 0, "1<1", 0);
        MarkArenas twice = dueMade("one field twice", two, 1, "1<1;1<1", 2);
        due("one field twice: the later one", twice.object(1, 3), 3);
        MarkArenas roomless = dueMade("no room: no field changes", () -> dropOne(filled(0, 64)), 0,
                "1<0", 0);
        due("no field changes", roomless.object(0, 3), NONE);
        sentence("Undoable, as one call, also if none is made");
        answers("saved states", textIn(() -> undone(two(), 3), "1;1;1"), x -> {
            x.makeAll(0);
            return x.count(10);
        }, 4);
        answers("saved states, none made", textIn(() -> undone(two(), 3), "1<23"), x -> {
            x.makeAll(0);
            return x.count(10);
        }, 4);
    }

    private static void makeAllRefused() {
        sentence("Throws IndexOutOfBoundsException if there is no such arena");
        for (int arena : NO_ARENA) {
            refused("arena " + arena, textIn(BoundaryTests::two, "1"), INDEX,
                    x -> x.makeAll(arena));
            refused("arena " + arena + ", no text", textIn(BoundaryTests::two, ""), INDEX,
                    x -> x.makeAll(arena));
        }
        answers("arena 0", textIn(() -> opened(6), "1"), x -> x.makeAll(0), 1);
        answers("arena 5", textIn(() -> opened(6), "1"), x -> x.makeAll(5), 1);
        sentence("Throws IllegalArgumentException if the buffer is not complete objects as a text");
        String[] incomplete = {"", "1;", "1<", "1r<", "1;1r<", "0", "17", "1x", "1;1;", "1<24", "r",
            ";", "1rr", "1<1;2<1;3<"};
        for (String text : incomplete) {
            refused("\"" + text + "\"", textIn(BoundaryTests::two, text), ARGUMENT,
                    x -> x.makeAll(0));
            refused("\"" + text + "\" in a free one", textIn(BoundaryTests::two, text), ARGUMENT,
                    x -> x.makeAll(5));
        }
        sentence("Throws IllegalStateException if the arena is not open");
        refused("a free one", textIn(BoundaryTests::two, "1"), STATE, x -> x.makeAll(5));
        refused("one that was returned", textIn(BoundaryTests::oneGone, "1<23"), STATE,
                x -> x.makeAll(1));
    }

    private static void undo() {
        head("Promise 14, undo");
        sentence("Restores the latest saved state, and drops it. Returns how many saved states are"
                + " left");
        answers("the only one", () -> opened(1), x -> x.undo(), 0);
        answers("the first of two", () -> opened(2), x -> x.undo(), 1);
        answers("the latest of six", () -> opened(6), x -> x.undo(), 5);
        answers("the latest of seven", () -> dropOne(opened(6)), x -> x.undo(), 5);
        answers("the latest alone", () -> opened(6), x -> {
            x.undo();
            return x.count(2);
        }, 5);
        answers("all six", () -> opened(6), x -> undone(x, 6).count(2), 0);
        answers("the seventh before was dropped", () -> row(0, 1, 1), x -> undone(x, 6).count(2), 1);
        sentence("Throws IllegalStateException if there is none");
        refused("at first", MarkArenas::new, STATE, x -> x.undo());
        refused("at first, with a buffer", () -> typed("1;2"), STATE, x -> x.undo());
        refused("after the only one", () -> undone(opened(1), 1), STATE, x -> x.undo());
        refused("after six of six", () -> undone(opened(6), 6), STATE, x -> x.undo());
        refused("after six of seven", () -> undone(row(0, 1, 1), 6), STATE, x -> x.undo());
        answers("it is not undone itself", () -> undone(opened(2), 1), x -> {
            x.undo();
            return x.count(2);
        }, 0);
    }

    // ---- looks

    private static void object() {
        head("Promise 15, object");
        sentence("0: its arena; 1: its address; 2: its size");
        for (int arena = 0; arena < 6; arena++) {
            int a = arena;
            answers("in arena " + a, () -> row(a, 4, 16), x -> x.object(3, 0), a);
            answers("the first address in " + a, () -> row(a, 4, 16), x -> x.object(0, 1), 0);
            answers("the last one in " + a, () -> filled(a, 64), x -> x.object(3, 1), 48);
        }
        answers("the last cell", () -> andThen(() -> filled(0, 63), x -> x.make(0, 1)),
                x -> x.object(4, 1), 63);
        answers("the smallest", () -> row(0, 1, 1), x -> x.object(0, 2), 1);
        answers("the largest", () -> row(0, 1, 16), x -> x.object(0, 2), 16);
        sentence("3, 4: the reference of its field 0, 1, NONE without one");
        answers("field 0", BoundaryTests::two, x -> x.object(0, 3), 1);
        answers("field 1 without", BoundaryTests::two, x -> x.object(0, 4), NONE);
        answers("field 0 without", BoundaryTests::two, x -> x.object(1, 3), NONE);
        answers("field 1 to the object 0", () -> andThen(BoundaryTests::two,
                x -> x.link(1, 1, 0)), x -> x.object(1, 4), 0);
        sentence("5: 1 if it is a root, otherwise 0; 6: 1 if it is pinned, otherwise 0");
        answers("a root", BoundaryTests::two, x -> x.object(0, 5), 1);
        answers("none that lives", BoundaryTests::two, x -> x.object(1, 5), 0);
        answers("pinned", BoundaryTests::kept, x -> x.object(0, 6), 1);
        answers("not pinned", BoundaryTests::two, x -> x.object(0, 6), 0);
        objectLives();
        objectCounts();
        objectRefused();
    }

    private static void objectLives() {
        sentence("7: 1 if it lives by roots, otherwise 0; 8: 1 if it would survive the return of"
                + " its arena, otherwise 0");
        Made remembered = () -> {
            MarkArenas x = opened(2);
            madeOf(x, 0, "1r;1<0;1");
            madeOf(x, 1, "1");
            x.link(3, 1, 2);
            x.set(0, 1);
            return x;
        };
        int[][] wanted = {{1, 1}, {1, 1}, {0, 1}, {0, 0}};
        for (int number = 0; number < 4; number++) {
            int n = number;
            answers("object(" + n + ", 7)", remembered, x -> x.object(n, 7), wanted[n][0]);
            answers("object(" + n + ", 8)", remembered, x -> x.object(n, 8), wanted[n][1]);
            answers("object(" + n + ", 8), setting 0 as 0", () -> andThen(remembered,
                    x -> x.set(0, 0)), x -> x.object(n, 8), wanted[n][0]);
        }
        answers("in a kept arena", BoundaryTests::kept, x -> x.object(0, 8), 1);
        answers("in a kept arena, the others", () -> andThen(BoundaryTests::kept,
                x -> x.make(0, 1)), x -> x.object(1, 8), 0);
        answers("without another open arena", () -> andThen(() -> opened(1),
                x -> madeOf(x, 0, "1r")), x -> x.object(0, 8), 1);
    }

    private static MarkArenas chain(int number) {
        MarkArenas x = row(0, number, 1);
        for (int i = 0; i + 1 < number; i++) {
            x.link(i, i % 2, i + 1);
        }
        x.root(0, true);
        return x;
    }

    private static void objectCounts() {
        sentence("9: how often it was laid anew so far");
        answers("at first", BoundaryTests::two, x -> x.object(0, 9), 0);
        for (int times = 1; times <= 20; times++) {
            int t = times;
            answers("after " + t + " returns", () -> {
                MarkArenas x = allRoots(row(0, 1, 1));
                for (int i = 0; i < t; i++) {
                    x.giveBack(i % 2, 1 - i % 2);
                    x.open();
                }
                return x;
            }, x -> x.object(0, 9), t);
        }
        answers("a number used again", () -> {
            MarkArenas x = allRoots(row(0, 2, 1));
            x.giveBack(0, 1);
            x.root(0, false);
            x.giveBack(1, 2);
            x.make(2, 1);
            return x;
        }, x -> x.object(0, 9), 0);
        answers("a return that is undone", () -> undone(andThen(BoundaryTests::two,
                x -> x.giveBack(0, 1)), 1), x -> x.object(0, 9), 0);
        answers("others are returned into its arena", () -> andThen(BoundaryTests::two,
                x -> x.giveBack(1, 0)), x -> x.object(0, 9), 0);
        sentence("10: fields that refer to it");
        answers("none", BoundaryTests::two, x -> x.object(0, 10), 0);
        answers("its own two", () -> {
            MarkArenas x = two();
            x.link(0, 0, 0);
            x.link(0, 1, 0);
            return x;
        }, x -> x.object(0, 10), 2);
        Made all = () -> {
            MarkArenas x = row(0, 12, 1);
            makeMany(x, 1, 12, 1);
            for (int number = 0; number < 24; number++) {
                x.link(number, 0, 23);
                x.link(number, 1, 23);
            }
            return x;
        };
        answers("all 48", all, x -> x.object(23, 10), 48);
        answers("all 48, to another one", all, x -> x.object(0, 10), 0);
        answers("all 48, a half of them gone", () -> andThen(all, x -> x.close(0)),
                x -> x.object(23, 10), 24);
        sentence("11: how many references lead to it from a root at least, 0 for a root, NONE if it"
                + " does not live by roots");
        for (int number = 0; number < 24; number++) {
            int n = number;
            answers("in a chain, object " + n, () -> chain(24), x -> x.object(n, 11), n);
        }
        answers("a root to which one leads", () -> andThen(() -> chain(3), x -> x.root(2, true)),
                x -> x.object(2, 11), 0);
        answers("the shorter way", () -> andThen(() -> chain(24), x -> x.link(1, 0, 23)),
                x -> x.object(23, 11), 2);
        answers("the way from another root", () -> andThen(() -> chain(24),
                x -> x.root(22, true)), x -> x.object(23, 11), 1);
        answers("without a root", () -> andThen(() -> chain(24), x -> x.root(0, false)),
                x -> x.object(0, 11), NONE);
        answers("remembered alone", () -> {
            MarkArenas x = row(0, 1, 1);
            x.make(1, 1);
            x.link(1, 0, 0);
            x.set(0, 1);
            return x;
        }, x -> x.object(0, 11), NONE);
    }

    private static void objectRefused() {
        sentence("Throws IndexOutOfBoundsException if there is no such object");
        for (int object : NO_OBJECT) {
            refused("object " + object, BoundaryTests::two, INDEX, x -> x.object(object, 0));
            refused("object " + object + ", what 12", BoundaryTests::two, INDEX,
                    x -> x.object(object, 12));
        }
        refused("one that is gone", BoundaryTests::oneGone, INDEX, x -> x.object(1, 0));
        sentence("Throws IllegalArgumentException if what is not 0 to 11");
        for (int what : new int[] {-1, 12, LEAST, MOST}) {
            refused("what " + what, BoundaryTests::two, ARGUMENT, x -> x.object(0, what));
        }
        for (int what = 0; what < 12; what++) {
            int w = what;
            changesNothing("what " + w, BoundaryTests::two, x -> x.object(1, w));
        }
    }

    private static void dueArena(String what, Made made, int arena, int... wanted) {
        for (int i = 0; i < 8; i++) {
            int w = i;
            answers(what + ": arena(" + arena + ", " + w + ")", made, x -> x.arena(arena, w),
                    wanted[w]);
        }
    }

    private static void arena() {
        head("Promise 16, arena");
        sentence("Returns a property of an arena");
        dueArena("never opened", MarkArenas::new, 5, 0, 0, 0, 0, 0, 0, 0, 0);
        dueArena("empty", () -> opened(6), 5, 1, 0, 0, 0, 0, 0, 0, 1);
        dueArena("full, none survives", () -> filled(5, 64), 5, 1, 64, 4, 0, 64, 0, 0, 1);
        dueArena("full, all survive", () -> allRoots(filled(0, 64)), 0, 1, 64, 4, 64, 0, 0, 0, 1);
        dueArena("24 objects", () -> {
            MarkArenas x = allRoots(row(3, 24, 1));
            for (int number = 0; number < 24; number++) {
                x.pin(number, true);
            }
            return x;
        }, 3, 1, 24, 24, 24, 0, 24, 1, 1);
        dueArena("pinned, none survives", () -> andThen(() -> row(0, 2, 2), x -> x.pin(1, true)), 0,
                1, 4, 2, 0, 4, 1, 0, 1);
        dueArena("one of two survives", () -> andThen(() -> row(0, 2, 2), x -> x.root(1, true)), 0,
                1, 4, 2, 2, 2, 0, 0, 1);
        dueArena("returned", () -> andThen(BoundaryTests::two, x -> x.giveBack(0, 1)), 0,
                0, 0, 0, 0, 0, 0, 0, 1);
        dueArena("returned into", () -> andThen(BoundaryTests::two, x -> x.giveBack(0, 1)), 1,
                1, 7, 2, 7, 0, 0, 0, 1);
        dueArena("closed and opened again", () -> {
            MarkArenas x = row(0, 3, 16);
            x.close(0);
            x.open();
            return x;
        }, 0, 1, 0, 0, 0, 0, 0, 0, 2);
        dueArena("remembered", () -> {
            MarkArenas x = row(0, 2, 2);
            x.make(1, 1);
            x.link(2, 0, 1);
            x.pin(1, true);
            x.set(0, 1);
            return x;
        }, 0, 1, 4, 2, 2, 2, 1, 1, 1);
        sentence("7: how often it was opened so far");
        answers("100 times", () -> {
            MarkArenas x = opened(1);
            for (int i = 1; i < 100; i++) {
                x.close(0);
                x.open();
            }
            return x;
        }, x -> x.arena(0, 7), 100);
        answers("an open that is undone", () -> undone(opened(2), 1), x -> x.arena(1, 7), 0);
        sentence("Throws IndexOutOfBoundsException if there is no such arena");
        for (int arena : NO_ARENA) {
            refused("arena " + arena, BoundaryTests::two, INDEX, x -> x.arena(arena, 0));
            refused("arena " + arena + ", what 8", BoundaryTests::two, INDEX,
                    x -> x.arena(arena, 8));
        }
        sentence("Throws IllegalArgumentException if what is not 0 to 7");
        for (int what : new int[] {-1, 8, LEAST, MOST}) {
            refused("what " + what, BoundaryTests::two, ARGUMENT, x -> x.arena(0, what));
        }
        for (int what = 0; what < 8; what++) {
            int w = what;
            changesNothing("what " + w, BoundaryTests::two, x -> x.arena(0, w));
        }
    }

    private static void at() {
        head("Promise 17, at");
        sentence("Returns the object, NONE if there is none");
        for (int cell = 0; cell < 64; cell++) {
            int c = cell;
            answers("cell " + c + " of a full arena", () -> filled(5, 64), x -> x.at(5, c), c / 16);
            answers("cell " + c + " of an empty one", () -> filled(5, 64), x -> x.at(4, c), NONE);
            answers("cell " + c + " of a free one", () -> andThen(() -> filled(5, 64),
                    x -> x.close(5)), x -> x.at(5, c), NONE);
            answers("cell " + c + " of two objects", BoundaryTests::two, x -> x.at(0, c),
                    c < 3 ? 0 : c < 7 ? 1 : NONE);
            answers("cell " + c + ", given back", () -> andThen(BoundaryTests::two,
                    x -> x.giveBack(0, 4)), x -> x.at(4, c), c < 3 ? 0 : c < 7 ? 1 : NONE);
        }
        changesNothing("at", BoundaryTests::two, x -> x.at(0, 0));
        sentence("Throws IndexOutOfBoundsException if there is no such arena or cell");
        for (int arena : NO_ARENA) {
            refused("arena " + arena, BoundaryTests::two, INDEX, x -> x.at(arena, 0));
        }
        for (int cell : new int[] {-1, 64, LEAST, MOST}) {
            refused("cell " + cell, () -> filled(0, 64), INDEX, x -> x.at(0, cell));
            refused("cell " + cell + " of a free one", BoundaryTests::two, INDEX,
                    x -> x.at(5, cell));
        }
    }

    private static void dueCounts(String what, Made made, int... wanted) {
        for (int i = 0; i < 11; i++) {
            int w = i;
            answers(what + ": count(" + w + ")", made, x -> x.count(w), wanted[w]);
        }
    }

    private static void count() {
        head("Promise 18, count");
        sentence("Returns a number");
        dueCounts("at first", MarkArenas::new, 0, 0, 0, 0, 0, 0, 0, 0, 0, 0, 0);
        dueCounts("one open", () -> opened(1), 0, 0, 1, 0, 0, 0, 0, 0, 0, 0, 1);
        Made all = () -> {
            MarkArenas x = row(0, 12, 1);
            makeMany(x, 1, 12, 1);
            for (int number = 0; number < 24; number++) {
                x.link(number, 0, (number + 12) % 24);
                x.link(number, 1, number);
            }
            return allRoots(x);
        };
        dueCounts("all", all, 24, 24, 6, 24, 48, 24, 24, 0, 0, 0, 6);
        dueCounts("all in one arena", () -> andThen(all, x -> x.giveBack(0, 1)),
                24, 24, 5, 24, 48, 0, 24, 12, 0, 1, 6);
        dueCounts("all, twice laid anew", () -> {
            MarkArenas x = all.now();
            x.giveBack(0, 2);
            x.giveBack(2, 1);
            return x;
        }, 24, 24, 4, 24, 48, 0, 24, 24, 0, 2, 6);
        dueCounts("all without roots", () -> {
            MarkArenas x = all.now();
            for (int number = 0; number < 24; number++) {
                x.root(number, false);
            }
            x.close(1);
            return x;
        }, 12, 0, 5, 0, 12, 0, 24, 0, 12, 1, 6);
        dueCounts("one root leads to all", () -> chain(24), 24, 24, 6, 1, 23, 0, 24, 0, 0, 0, 6);
        dueCounts("made once more", () -> {
            MarkArenas x = row(0, 24, 1);
            x.close(0);
            makeMany(x, 1, 24, 1);
            return x;
        }, 24, 0, 5, 0, 0, 0, 48, 0, 24, 1, 6);
        dueCounts("an empty one returned, another closed", () -> {
            MarkArenas x = opened(3);
            x.giveBack(0, 1);
            x.close(2);
            return x;
        }, 0, 0, 1, 0, 0, 0, 0, 0, 0, 2, 5);
        countRefused();
    }

    private static void countRefused() {
        sentence("10: saved states");
        for (int calls = 0; calls <= 8; calls++) {
            int c = calls;
            answers("after " + c, () -> {
                MarkArenas x = new MarkArenas();
                for (int i = 0; i < c; i++) {
                    x.set(0, 0);
                }
                return x;
            }, x -> x.count(10), c < 6 ? c : 6);
        }
        sentence("Throws IllegalArgumentException if what is not 0 to 10");
        for (int what : new int[] {-1, 11, LEAST, MOST}) {
            refused("what " + what, BoundaryTests::two, ARGUMENT, x -> x.count(what));
        }
        for (int what = 0; what < 11; what++) {
            int w = what;
            changesNothing("what " + w, BoundaryTests::two, x -> x.count(w));
        }
    }

    private static void setting() {
        head("Promise 19, setting");
        sentence("Returns its value");
        Made set = () -> {
            MarkArenas x = two();
            x.set(0, 1);
            x.set(1, 2);
            return x;
        };
        answers("setting 0", set, x -> x.setting(0), 1);
        answers("setting 1", set, x -> x.setting(1), 2);
        answers("setting 1 as 1", () -> andThen(set, x -> x.set(1, 1)), x -> x.setting(1), 1);
        answers("setting 0 as 0 again", () -> andThen(set, x -> x.set(0, 0)), x -> x.setting(0), 0);
        answers("undone", () -> undone(set.now(), 1), x -> x.setting(1), 0);
        changesNothing("setting", set, x -> x.setting(0));
        sentence("Throws IndexOutOfBoundsException if there is no such setting");
        for (int setting : new int[] {-1, 2, LEAST, MOST}) {
            refused("setting " + setting, set, INDEX, x -> x.setting(setting));
        }
    }

    // ---- what would be

    private static void whyNot() {
        head("Promise 20, whyNot");
        sentence("Returns 1 if both are the same; 2 if one of both is not open; 3 if the arena is"
                + " kept; 4 if the survivors have no room (the first one of these that applies); 0"
                + " if it can be");
        Made keptAndRoomless = () -> {
            MarkArenas x = kept();
            makeMany(x, 1, 3, 16);
            x.make(1, 1);
            return x;
        };
        answers("1, open", BoundaryTests::two, x -> x.whyNot(1, 1), 1);
        answers("1, free", BoundaryTests::two, x -> x.whyNot(5, 5), 1);
        answers("1, kept", BoundaryTests::kept, x -> x.whyNot(0, 0), 1);
        answers("1, full of survivors", () -> allRoots(filled(0, 64)), x -> x.whyNot(0, 0), 1);
        answers("2, the first", BoundaryTests::two, x -> x.whyNot(5, 0), 2);
        answers("2, the second", BoundaryTests::two, x -> x.whyNot(0, 5), 2);
        answers("2, both", MarkArenas::new, x -> x.whyNot(0, 5), 2);
        answers("2, the first is kept", BoundaryTests::kept, x -> x.whyNot(0, 5), 2);
        answers("3, with room", BoundaryTests::kept, x -> x.whyNot(0, 1), 3);
        answers("3, without room", keptAndRoomless, x -> x.whyNot(0, 1), 3);
        answers("0, the second is kept", keptAndRoomless, x -> x.whyNot(1, 0), 0);
        answers("4", () -> andThen(keptAndRoomless, x -> x.pin(0, false)), x -> x.whyNot(0, 1), 4);
        answers("0, nothing survives", () -> andThen(keptAndRoomless, x -> x.root(0, false)),
                x -> x.whyNot(0, 1), 0);
        for (int cells = 0; cells <= 64; cells++) {
            answers("0, room for " + cells, roomFor(cells, 64 - cells), x -> x.whyNot(0, 1), 0);
            if (cells > 0) {
                answers("4, no room for " + cells, roomFor(cells, 65 - cells), x -> x.whyNot(0, 1),
                        4);
            }
        }
        changesNothing("0", BoundaryTests::two, x -> x.whyNot(0, 1));
        changesNothing("3", BoundaryTests::kept, x -> x.whyNot(0, 1));
        sentence("Throws IndexOutOfBoundsException if there is no such arena");
        for (int arena : NO_ARENA) {
            refused(arena + " and 1", BoundaryTests::two, INDEX, x -> x.whyNot(arena, 1));
            refused("0 and " + arena, BoundaryTests::two, INDEX, x -> x.whyNot(0, arena));
            refused("both " + arena, BoundaryTests::two, INDEX, x -> x.whyNot(arena, arena));
        }
    }

    private static void ifGiven() {
        head("Promise 21, ifGiven");
        sentence("Returns its address in this arena, if its arena was returned into it; NONE if"
                + " that cannot be, or it would be gone");
        answers("the first cell", BoundaryTests::two, x -> x.ifGiven(0, 1), 0);
        answers("behind the first one", BoundaryTests::two, x -> x.ifGiven(1, 1), 3);
        answers("the last cell", roomFor(1, 63), x -> x.ifGiven(0, 1), 63);
        answers("no room", roomFor(1, 64), x -> x.ifGiven(0, 1), NONE);
        answers("room for this one, but not for all", roomFor(17, 48), x -> x.ifGiven(0, 1), NONE);
        answers("room for just all", roomFor(17, 47), x -> x.ifGiven(1, 1), 63);
        answers("its own arena", BoundaryTests::two, x -> x.ifGiven(0, 0), NONE);
        answers("a free arena", BoundaryTests::two, x -> x.ifGiven(0, 5), NONE);
        answers("kept", BoundaryTests::kept, x -> x.ifGiven(0, 1), NONE);
        answers("kept for another one", () -> {
            MarkArenas x = two();
            x.pin(0, true);
            return x;
        }, x -> x.ifGiven(1, 1), NONE);
        answers("it would be gone", () -> andThen(BoundaryTests::two, x -> x.link(0, 0, NONE)),
                x -> x.ifGiven(1, 1), NONE);
        answers("it would be gone, in its own arena", () -> row(0, 1, 1), x -> x.ifGiven(0, 0),
                NONE);
        answers("it is remembered", () -> {
            MarkArenas x = roomFor(0, 16).now();
            x.make(0, 2);
            x.link(0, 0, 1);
            x.set(0, 1);
            return x;
        }, x -> x.ifGiven(1, 1), 16);
        changesNothing("an address", BoundaryTests::two, x -> x.ifGiven(1, 1));
        changesNothing("NONE", BoundaryTests::kept, x -> x.ifGiven(0, 1));
        sentence("Throws IndexOutOfBoundsException if there is no such object or arena");
        for (int object : NO_OBJECT) {
            refused("object " + object, BoundaryTests::two, INDEX, x -> x.ifGiven(object, 1));
        }
        refused("one that is gone", BoundaryTests::oneGone, INDEX, x -> x.ifGiven(1, 0));
        for (int arena : NO_ARENA) {
            refused("arena " + arena, BoundaryTests::two, INDEX, x -> x.ifGiven(0, arena));
            refused("arena " + arena + ", it would be gone", () -> row(0, 1, 1), INDEX,
                    x -> x.ifGiven(0, arena));
        }
    }

    private static void ifLost() {
        head("Promise 22, ifLost");
        sentence("Returns how many of those that live now, itself, too");
        answers("one that does not live", () -> row(0, 1, 1), x -> x.ifLost(0), 0);
        answers("one that does not live, but leads to one that does", () -> {
            MarkArenas x = two();
            x.make(0, 1);
            x.link(2, 0, 1);
            return x;
        }, x -> x.ifLost(2), 0);
        answers("a root alone", () -> allRoots(row(0, 1, 1)), x -> x.ifLost(0), 1);
        for (int number = 0; number < 24; number++) {
            int n = number;
            answers("in a chain, object " + n, () -> chain(24), x -> x.ifLost(n), 24 - n);
        }
        answers("a root to which one refers", () -> andThen(() -> chain(3), x -> x.root(1, true)),
                x -> x.ifLost(1), 2);
        answers("one of two ways", () -> {
            MarkArenas x = chain(4);
            x.link(0, 1, 2);
            return x;
        }, x -> x.ifLost(1), 1);
        answers("where both ways meet", () -> {
            MarkArenas x = chain(4);
            x.link(0, 1, 2);
            return x;
        }, x -> x.ifLost(2), 2);
        answers("a ring", () -> andThen(() -> chain(24), x -> x.link(23, 0, 0)),
                x -> x.ifLost(0), 24);
        answers("itself alone refers to it", () -> andThen(() -> chain(1), x -> x.link(0, 0, 0)),
                x -> x.ifLost(0), 1);
        answers("those with a root of their own stay", () -> allRoots(chain(24)),
                x -> x.ifLost(0), 1);
        answers("what is remembered does not count", () -> {
            MarkArenas x = chain(2);
            x.make(1, 1);
            x.link(2, 0, 1);
            x.set(0, 1);
            return x;
        }, x -> x.ifLost(1), 1);
        changesNothing("a root", BoundaryTests::two, x -> x.ifLost(0));
        changesNothing("no root", BoundaryTests::two, x -> x.ifLost(1));
        sentence("Throws IndexOutOfBoundsException if there is no such object");
        for (int object : NO_OBJECT) {
            refused("object " + object, BoundaryTests::two, INDEX, x -> x.ifLost(object));
        }
        refused("one that is gone", BoundaryTests::oneGone, INDEX, x -> x.ifLost(1));
    }

    private static void best() {
        head("Promise 23, best");
        sentence("Returns of the open arenas that could be returned into some other one, the one"
                + " with the most cells of objects that would not survive, as arena(.., 4) (also"
                + " none), of several the lowest one; NONE if there is none");
        answers("none is open", MarkArenas::new, x -> x.best(), NONE);
        answers("one is open", () -> opened(1), x -> x.best(), NONE);
        answers("one is open, with dead cells", () -> andThen(() -> opened(1),
                x -> x.make(0, 16)), x -> x.best(), NONE);
        answers("two are open, both without dead cells", () -> opened(2), x -> x.best(), 0);
        answers("two are open, all cells live", () -> allRoots(row(5, 1, 1)), x -> x.best(), 0);
        for (int arena = 0; arena < 6; arena++) {
            int a = arena;
            answers("one dead cell in " + a, () -> row(a, 1, 1), x -> x.best(), a);
            answers("64 dead cells in " + a + ", 63 in another", () -> {
                MarkArenas x = filled(a, 64);
                makeMany(x, (a + 1) % 6, 3, 16);
                x.make((a + 1) % 6, 15);
                return x;
            }, x -> x.best(), a);
            answers("as many in " + a + " as in the last", () -> {
                MarkArenas x = row(5, 1, 4);
                x.make(a, 2);
                makeMany(x, a, 2, 1);
                return x;
            }, x -> x.best(), a);
        }
        answers("living cells do not count", () -> {
            MarkArenas x = allRoots(row(0, 4, 16));
            x.make(3, 1);
            return x;
        }, x -> x.best(), 3);
        answers("a kept one is left out", () -> andThen(BoundaryTests::kept, x -> x.make(0, 16)),
                x -> x.best(), 1);
        answers("kept is the only other", () -> {
            MarkArenas x = opened(2);
            madeOf(x, 0, "1r;16");
            x.pin(0, true);
            return x;
        }, x -> x.best(), 1);
        answers("both are kept", () -> {
            MarkArenas x = opened(2);
            madeOf(x, 0, "1r;16");
            madeOf(x, 1, "1r;16");
            x.pin(0, true);
            x.pin(2, true);
            return x;
        }, x -> x.best(), NONE);
        answers("room in the last one alone", () -> {
            MarkArenas x = fullOf(33);
            for (int i = 0; i < 4; i++) {
                x.make(1, 16);
            }
            makeMany(x, 2, 1, 16);
            return x;
        }, x -> x.best(), 1);
        bestWithoutRoom();
    }

    private static void bestWithoutRoom() {
        Made bothRoomless = () -> {
            MarkArenas x = opened(2);
            madeOf(x, 0, "16r;16r;16r;1");
            madeOf(x, 1, "16r;16r;3");
            return x;
        };
        answers("no room for either", bothRoomless, x -> x.best(), NONE);
        answers("no room for the one with the most dead cells", () -> {
            MarkArenas x = opened(3);
            madeOf(x, 0, "16r;16r;16r;10");
            madeOf(x, 1, "10r;9");
            madeOf(x, 2, "9r;8");
            return x;
        }, x -> x.best(), 1);
        answers("room for the second alone", () -> {
            MarkArenas x = opened(2);
            madeOf(x, 0, "16r;16r;16r;8");
            madeOf(x, 1, "8r;1;16");
            return x;
        }, x -> x.best(), 1);
        answers("room for the first alone", () -> {
            MarkArenas x = opened(2);
            madeOf(x, 0, "16r;16r;16;10");
            madeOf(x, 1, "16;16r");
            return x;
        }, x -> x.best(), 0);
        changesNothing("best", bothRoomless, x -> x.best());
    }

    private static void dueShareOf(String what, Made made, double want) {
        dueShare(what, made.now().livingShare(), want);
    }

    private static void livingShare() {
        head("Promise 24, livingShare");
        sentence("Returns the cells of objects that live by roots, as a double, divided by the sum"
                + " of the marks of all arenas; 1.0 if that is 0");
        dueShareOf("none is open", MarkArenas::new, 1.0);
        dueShareOf("6 empty ones", () -> opened(6), 1.0);
        dueShareOf("emptied again", () -> andThen(() -> row(0, 24, 1), x -> x.close(0)), 1.0);
        dueShareOf("none lives", () -> row(0, 1, 1), 0.0);
        dueShareOf("all live", () -> allRoots(row(0, 24, 2)), 1.0);
        dueShareOf("all 24 live, with 6 arenas full of them", () -> {
            MarkArenas x = opened(6);
            for (int arena = 0; arena < 6; arena++) {
                makeMany(x, arena, 4, 16);
            }
            return allRoots(x);
        }, 1.0);
        dueShareOf("the least", () -> {
            MarkArenas x = opened(6);
            x.root(x.make(0, 1), true);
            for (int number = 1; number < 24; number++) {
                x.make(number / 4, number == 1 ? 15 : 16);
            }
            return x;
        }, 1.0 / 368.0);
        dueShareOf("cells, not objects", () -> andThen(() -> opened(1), x -> madeOf(x, 0, "16r;1")),
                16.0 / 17.0);
        dueShareOf("not the root alone", () -> andThen(() -> opened(1),
                x -> madeOf(x, 0, "1r;16<0;5")), 17.0 / 22.0);
        dueShareOf("by roots alone, not by memory", () -> {
            MarkArenas x = chain(1);
            x.make(1, 1);
            x.make(0, 1);
            x.link(1, 0, 2);
            x.set(0, 1);
            return x;
        }, 1.0 / 3.0);
        changesNothing("livingShare", BoundaryTests::two, x -> (long) x.livingShare());
    }

    /** The hash as it would be without overflow: the values are added to it one by one. */
    private static BigInteger hash(BigInteger before, long value) {
        return before.multiply(BigInteger.valueOf(31))
                .add(BigInteger.valueOf(value));
    }

    private static void digest() {
        head("Promise 25, digest");
        sentence("The hash starts at 2741. For each value v of the following list, in order, the"
                + " hash becomes 31 * hash + v, in long arithmetic with overflow");
        BigInteger exact = BigInteger.valueOf(2741);
        for (int zero = 0; zero < 13; zero++) {
            exact = hash(exact, 0);
        }
        for (int arena = 0; arena < 6; arena++) {
            for (int what = 0; what < 8; what++) {
                exact = hash(exact, 0);
            }
            exact = hash(exact, arena == 1 ? 1 : 2);
        }
        exact = hash(exact, NONE);
        exact = hash(exact, 0x3FF0000000000000L);
        exact = hash(exact, 0);
        due("at first, wrapped around", new MarkArenas().digest(), exact.longValue());
        due("it has wrapped around", exact.bitLength() > 64 ? 1 : 0, 1);
        BigInteger full = exact.add(BigInteger.valueOf(60));
        for (int i = 0; i < 60; i++) {
            full = hash(full, 126);
        }
        MarkArenas x = new MarkArenas();
        for (int i = 0; i < 60; i++) {
            x.append(126);
        }
        due("with a full buffer", x.digest(), full.longValue());
        dueDigest("two objects", BoundaryTests::two, "1");
        dueDigest("24 objects", () -> chain(24), "");
        dueDigest("numbers that are not used", BoundaryTests::oneGone, "");
        dueDigest("kept", BoundaryTests::kept, "");
        dueDigest("none lives", () -> filled(1, 64), "");
        dueDigest("the least share", () -> allRoots(row(0, 1, 1)), "");
        dueDigest("both settings at their most", () -> {
            MarkArenas y = two();
            y.set(0, 1);
            y.set(1, 2);
            return y;
        }, "1");
        dueDigest("two are carried on into the arena 0", () -> andThen(() -> opened(2),
                y -> madeOf(y, 1, "3r;4<0;5")), "");
        for (int cells = 1; cells <= 64; cells++) {
            int c = cells;
            dueDigest(c + " of 64 cells live", () -> fullOf(c), "");
        }
        dueDigest("60 characters", () -> typed(SIXTY), SIXTY);
        changesNothing("digest", BoundaryTests::two, y -> y.digest());
    }

    private static void dueDigest(String what, Made made, String buffer) {
        due(what, made.now().digest(), digestOf(made.now(), buffer));
    }

    public static void main(String[] args) {
        newObject();
        open();
        make();
        link();
        root();
        pin();
        giveBack();
        close();
        set();
        append();
        clearBuffer();
        firstError();
        makeAll();
        undo();
        object();
        arena();
        at();
        count();
        setting();
        whyNot();
        ifGiven();
        ifLost();
        best();
        livingShare();
        digest();
        end("BoundaryTests");
    }
}
