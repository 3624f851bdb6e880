/** The document's "Terms": for each sentence that names a boundary case, that very case. */
public final class TermTests extends Checks {
    private static MarkArenas with(int arenas, String... texts) {
        MarkArenas x = opened(arenas);
        for (int arena = 0; arena < texts.length; arena++) {
            if (!texts[arena].isEmpty()) {
                madeOf(x, arena, texts[arena]);
            }
        }
        return x;
    }

    private static MarkArenas withObjects(int number) {
        MarkArenas x = opened(2);
        makeMany(x, 0, number, 1);
        return x;
    }

    // ---- Terms: arenas, objects

    private static void sixArenas() {
        head("Terms, arenas and objects");
        sentence("There are 6 arenas, numbered from 0");
        for (int arena = 0; arena < 6; arena++) {
            int a = arena;
            answers("arena(" + a + ", 0)", () -> opened(6), x -> x.arena(a, 0), 1);
            answers("open() with " + a + " open", () -> opened(a), x -> x.open(), a);
        }
        refused("arena(-1, 0)", () -> opened(6), INDEX, x -> x.arena(-1, 0));
        refused("arena(6, 0)", () -> opened(6), INDEX, x -> x.arena(6, 0));
        refused("open() of a seventh", () -> opened(6), STATE, x -> x.open());
    }

    private static void sixtyFourCells() {
        sentence("with 64 cells each, numbered from 0");
        Made full = () -> with(2, "", "16;16;16;15;1");
        answers("at of the cell 0", full, x -> x.at(1, 0), 0);
        answers("at of the cell 62", full, x -> x.at(1, 62), 3);
        answers("at of the cell 63", full, x -> x.at(1, 63), 4);
        refused("at of the cell -1", full, INDEX, x -> x.at(1, -1));
        refused("at of the cell 64", full, INDEX, x -> x.at(1, 64));
        answers("the mark of a full arena", full, x -> x.arena(1, 1), 64);
        refused("a 65th cell", full, STATE, x -> x.make(1, 1));
        Made oneLeft = () -> with(2, "", "16;16;16;15");
        answers("the 64th cell", oneLeft, x -> x.make(1, 1), 4);
        refused("the 64th and 65th cell", oneLeft, STATE, x -> x.make(1, 2));
        answers("each arena has cells of its own", full, x -> x.make(0, 16), 5);
    }

    private static void freeOrOpen() {
        sentence("an arena is free, at first, or open");
        for (int arena = 0; arena < 6; arena++) {
            int a = arena;
            answers("arena(" + a + ", 0) at first", MarkArenas::new, x -> x.arena(a, 0), 0);
            answers("arena(" + a + ", 0) open", () -> opened(a + 1), x -> x.arena(a, 0), 1);
            answers("the next after " + a, () -> opened(a), x -> x.arena(a, 0), 0);
        }
    }

    private static void marks() {
        sentence("An open arena has a mark, the number of cells that were handed out in it so far,"
                + " at first 0");
        answers("the mark at first", () -> opened(1), x -> x.arena(0, 1), 0);
        answers("the mark of cells without life", () -> with(1, "16;3"), x -> x.arena(0, 1), 19);
        answers("the mark counts what was handed out since it was opened last", () -> {
            MarkArenas x = with(2, "16;3");
            x.close(0);
            x.open();
            return x;
        }, x -> x.arena(0, 1), 0);
        answers("cells of objects that were carried on count", () -> {
            MarkArenas x = with(2, "16;3r", "5");
            x.giveBack(0, 1);
            return x;
        }, x -> x.arena(1, 1), 8);
    }

    private static void twentyFourObjects() {
        sentence("There are at most 24 objects; an object has a number, 0 to 23");
        answers("a 24th object", () -> withObjects(23), x -> x.make(1, 1), 23);
        refused("a 25th object", () -> withObjects(24), STATE, x -> x.make(1, 1));
        answers("the number 0", () -> withObjects(24), x -> x.object(0, 1), 0);
        answers("the number 23", () -> withObjects(24), x -> x.object(23, 1), 23);
        refused("the number 24", () -> withObjects(24), INDEX, x -> x.object(24, 1));
        refused("the number -1", () -> withObjects(24), INDEX, x -> x.object(-1, 1));
        answers("24 objects in 6 arenas", () -> with(6, "1;1;1;1", "1;1;1;1", "1;1;1;1",
                "1;1;1;1", "1;1;1;1", "1;1;1"), x -> x.make(5, 1), 23);
        refused("a 25th in 6 arenas", () -> with(6, "1;1;1;1", "1;1;1;1", "1;1;1;1",
                "1;1;1;1", "1;1;1;1", "1;1;1;1"), STATE, x -> x.make(5, 1));
        answers("one of 24 is gone: another one", () -> {
            MarkArenas x = with(3, "1;1;1;1;1;1;1;1;1;1;1;1;1", "1", "1;1;1;1;1;1;1;1;1;1");
            x.close(1);
            return x;
        }, x -> x.make(0, 1), 13);
    }

    private static void sizes() {
        sentence("a size, 1 to 16");
        answers("size 1", () -> opened(1), x -> x.make(0, 1), 0);
        answers("size 16", () -> opened(1), x -> x.make(0, 16), 0);
        refused("size 0", () -> opened(1), ARGUMENT, x -> x.make(0, 0));
        refused("size 17", () -> opened(1), ARGUMENT, x -> x.make(0, 17));
        sentence("it lies in the cells from its address on, as many as its size");
        Made row = () -> with(1, "2;16;1");
        answers("the cell before the address", row, x -> x.at(0, 1), 0);
        answers("the cell of the address", row, x -> x.at(0, 2), 1);
        answers("the last one of 16", row, x -> x.at(0, 17), 1);
        answers("the one behind these", row, x -> x.at(0, 18), 2);
        answers("behind the mark", row, x -> x.at(0, 19), NONE);
    }

    private static void twoFields() {
        sentence("It has two fields, 0 and 1, each with a reference to an object or none");
        Made two = () -> with(1, "1<0;1<1");
        answers("field 0 with a reference", two, x -> x.object(0, 3), 0);
        answers("field 1 without one", two, x -> x.object(0, 4), NONE);
        answers("the field 0 can be changed", two, x -> x.link(0, 0, 1), 0);
        answers("the field 1 can be changed", two, x -> x.link(0, 1, 1), NONE);
        refused("there is no field -1", two, INDEX, x -> x.link(0, -1, 1));
        refused("there is no field 2", two, INDEX, x -> x.link(0, 2, 1));
    }

    private static MarkArenas withGaps() {
        MarkArenas x = with(3, "1", "1;1", "1");
        x.make(1, 1);
        x.make(0, 1);
        x.close(1);
        return x;
    }

    private static void lowestNumbers() {
        sentence("An object that is made gets the lowest number that no object has, and the cells"
                + " from the mark on; the mark moves on by its size");
        int[] wanted = {1, 2, 4, 6, 7};
        MarkArenas x = withGaps();
        for (int i = 0; i < wanted.length; i++) {
            due("the number of object " + i + " after a return", x.make(2, i + 1), wanted[i]);
            due("its address", x.object(wanted[i], 1), 1 + i * (i + 1) / 2);
            due("the mark", x.arena(2, 1), 1 + (i + 1) * (i + 2) / 2);
        }
        answers("the number 0 again", () -> {
            MarkArenas y = with(2, "1", "1");
            y.close(0);
            return y;
        }, y -> y.make(1, 1), 0);
    }

    private static void goneByReturnAlone() {
        sentence("Objects are gone by the return of their arena alone, all those that do not"
                + " survive it");
        Made dead = () -> {
            MarkArenas x = with(4, "2r;3;4", "5", "1r");
            x.root(0, false);
            x.link(1, 0, 2);
            x.link(1, 0, NONE);
            return x;
        };
        answers("without a root", dead, x -> x.count(0), 5);
        answers("by the return of another arena into theirs", () -> {
            MarkArenas x = dead.now();
            x.giveBack(1, 0);
            return x;
        }, x -> x.arena(0, 2), 3);
        answers("a survivor of another arena comes in addition", () -> {
            MarkArenas x = dead.now();
            x.giveBack(2, 0);
            return x;
        }, x -> x.arena(0, 2), 4);
        answers("by a return, all of them", () -> {
            MarkArenas x = dead.now();
            x.giveBack(0, 2);
            return x;
        }, x -> x.count(0), 2);
        answers("by a closing, all of them", () -> {
            MarkArenas x = dead.now();
            x.close(0);
            return x;
        }, x -> x.count(0), 2);
    }

    // ---- Terms: living

    /** A chain from the object 0 on to the object 23, by the fields 0 and 1 in turn. */
    private static MarkArenas chain() {
        MarkArenas x = opened(3);
        for (int number = 0; number < 24; number++) {
            x.make(number % 3, 1);
        }
        for (int number = 0; number < 23; number++) {
            x.link(number, number % 2, number + 1);
        }
        return x;
    }

    private static void livingByRoots() {
        head("Terms, living");
        sentence("An object lives if it is a root, or if a field of an object that lives refers"
                + " to it");
        answers("a root alone", () -> with(1, "1r"), x -> x.object(0, 7), 1);
        answers("no root", () -> with(1, "1"), x -> x.object(0, 7), 0);
        answers("a root no more", () -> {
            MarkArenas x = with(1, "1r");
            x.root(0, false);
            return x;
        }, x -> x.object(0, 7), 0);
        answers("by the field 0", () -> with(1, "1r;1<0"), x -> x.object(1, 7), 1);
        answers("by the field 1, in another arena", () -> {
            MarkArenas x = with(2, "1r", "1");
            x.link(0, 1, 1);
            return x;
        }, x -> x.object(1, 7), 1);
        answers("by one that does not live", () -> with(1, "1;1<0"), x -> x.object(1, 7), 0);
        answers("what refers to one that lives", () -> with(1, "1;1r<0"), x -> x.object(0, 7), 0);
        answers("by itself", () -> with(1, "1<0"), x -> x.object(0, 7), 0);
        answers("in a ring", () -> {
            MarkArenas x = with(2, "1", "1<0");
            x.link(1, 0, 0);
            return x;
        }, x -> x.count(1), 0);
        answers("a chain of 24 without a root", TermTests::chain, x -> x.count(1), 0);
        for (int number = 0; number < 24; number++) {
            int n = number;
            answers("a chain of 24, its object " + n + " a root", () -> {
                MarkArenas x = chain();
                x.root(n, true);
                return x;
            }, x -> x.count(1), 24 - n);
        }
    }

    /** An object 1 in the arena 1, to which nothing leads but what a test links. */
    private static MarkArenas remembered(int setting, int holder, int field, int to) {
        MarkArenas x = with(4, "1", "2;3;4", "1");
        x.set(0, setting);
        x.link(holder, field, to);
        return x;
    }

    private static void livingByMemory() {
        sentence("With setting 0 as 1 it also lives, as far as returning its arena is concerned,"
                + " if a field of any object in another arena, living or not, refers to it");
        for (int field = 0; field < 2; field++) {
            int f = field;
            answers("setting 0 as 0, field " + f, () -> remembered(0, 0, f, 1),
                    x -> x.object(1, 8), 0);
            answers("setting 0 as 1, field " + f, () -> remembered(1, 0, f, 1),
                    x -> x.object(1, 8), 1);
            answers("a holder with a higher number, field " + f, () -> remembered(1, 4, f, 1),
                    x -> x.object(1, 8), 1);
            answers("a field of an object of its own arena, " + f, () -> remembered(1, 2, f, 1),
                    x -> x.object(1, 8), 0);
            answers("its own field " + f, () -> remembered(1, 1, f, 1), x -> x.object(1, 8), 0);
            answers("what refers elsewhere by its field " + f, () -> remembered(1, 1, f, 0),
                    x -> x.object(1, 8), 0);
        }
        Made one = () -> remembered(1, 0, 0, 1);
        answers("returning alone: it does not live by roots", one, x -> x.object(1, 7), 0);
        answers("returning alone: no way from a root", one, x -> x.object(1, 11), NONE);
        answers("returning alone: count(1)", one, x -> x.count(1), 0);
        answers("returning alone: ifLost", one, x -> x.ifLost(1), 0);
        answers("returning alone: livingShare", one, x -> (long) (x.livingShare() * 1000), 0);
        answers("the holder itself does not live", one, x -> x.object(0, 8), 0);
        answers("a living holder", () -> {
            MarkArenas x = remembered(1, 0, 0, 1);
            x.root(0, true);
            return x;
        }, x -> x.object(1, 8), 1);
    }

    private static void livingByWhatIsRemembered() {
        sentence("or of an object of its arena that so lives");
        Made led = () -> {
            MarkArenas x = remembered(1, 0, 0, 2);
            x.link(2, 1, 3);
            x.link(3, 0, 1);
            return x;
        };
        answers("two references on, in its own arena", led, x -> x.object(1, 8), 1);
        answers("all cells of these", led, x -> x.arena(1, 3), 9);
        answers("without the first reference", () -> {
            MarkArenas x = led.now();
            x.link(0, 0, NONE);
            return x;
        }, x -> x.arena(1, 3), 0);
        answers("a ring in its own arena", () -> {
            MarkArenas x = led.now();
            x.link(0, 0, NONE);
            x.link(1, 0, 2);
            return x;
        }, x -> x.arena(1, 3), 0);
        answers("with setting 0 as 0 again", () -> {
            MarkArenas x = led.now();
            x.set(0, 0);
            return x;
        }, x -> x.arena(1, 3), 0);
        answers("what one that lives by roots leads to", () -> {
            MarkArenas x = led.now();
            x.link(0, 0, NONE);
            x.root(3, true);
            return x;
        }, x -> x.arena(1, 3), 6);
        answers("23 references on", () -> {
            MarkArenas x = opened(2);
            x.make(1, 1);
            makeMany(x, 0, 23, 2);
            x.set(0, 1);
            for (int number = 23; number > 1; number--) {
                x.link(number, 0, number - 1);
            }
            x.link(0, 1, 23);
            return x;
        }, x -> x.object(1, 8), 1);
    }

    // ---- Terms: returning

    /** One object lives by roots, one is remembered, one leads back to it, one does not survive. */
    private static MarkArenas mixed(int setting) {
        MarkArenas x = with(2, "1;2r;3<0;4", "5");
        x.link(4, 0, 2);
        x.link(2, 1, 0);
        x.set(0, setting);
        return x;
    }

    private static void whoSurvives() {
        head("Terms, returning");
        sentence("An arena is returned into another open one: all objects of it that live (by"
                + " setting 0) survive");
        answers("setting 0 as 0", () -> mixed(0), x -> x.giveBack(0, 1), 1);
        answers("setting 0 as 1", () -> mixed(1), x -> x.giveBack(0, 1), 3);
        answers("setting 0 as 1: cells of these", () -> given(mixed(1), 0, 1), x -> x.arena(1, 1),
                11);
        int[][] there = {{0, 1}, {1, 1}, {0, 1}, {0, 0}};
        for (int setting = 0; setting < 2; setting++) {
            int s = setting;
            for (int number = 0; number < 4; number++) {
                int n = number;
                if (there[n][s] == 1) {
                    answers("object " + n + ", setting 0 as " + s, () -> given(mixed(s), 0, 1),
                            x -> x.object(n, 0), 1);
                } else {
                    refused("object " + n + ", setting 0 as " + s, () -> given(mixed(s), 0, 1),
                            INDEX, x -> x.object(n, 0));
                }
            }
        }
        refused("into itself", () -> mixed(0), ARGUMENT, x -> x.giveBack(0, 0));
        refused("into a free one", () -> mixed(0), STATE, x -> x.giveBack(0, 2));
        refused("a free one", () -> mixed(0), STATE, x -> x.giveBack(2, 0));
    }

    private static MarkArenas given(MarkArenas x, int arena, int into) {
        x.giveBack(arena, into);
        return x;
    }

    private static void survivorsAreLaid() {
        sentence("they are laid into the other arena from its mark on, one behind the other,"
                + " which moves the mark");
        Made empty = () -> given(with(2, "1;2r;3;4r"), 0, 1);
        answers("from the mark 0 on", empty, x -> x.object(1, 1), 0);
        answers("one behind the other", empty, x -> x.object(3, 1), 2);
        answers("the mark", empty, x -> x.arena(1, 1), 6);
        answers("the cell before the mark", empty, x -> x.at(1, 5), 3);
        answers("the cell at the mark", empty, x -> x.at(1, 6), NONE);
        Made full = () -> given(with(2, "16;16r", "16;16;16"), 0, 1);
        answers("up to the last cell", full, x -> x.at(1, 63), 1);
        answers("the mark of a full arena", full, x -> x.arena(1, 1), 64);
        Made none = () -> given(with(2, "16;16", "3"), 0, 1);
        answers("none survives: the mark", none, x -> x.arena(1, 1), 3);
        Made all = () -> given(with(2, "16r;16r;16r;16r", ""), 0, 1);
        answers("all of a full arena survive", all, x -> x.arena(1, 1), 64);
        answers("all of a full arena: the last address", all, x -> x.object(3, 1), 48);
    }

    private static MarkArenas manyReferences() {
        MarkArenas x = with(3, "2;3r;4r", "5", "6r");
        x.link(1, 0, 1);
        x.link(1, 1, 2);
        x.link(3, 0, 0);
        x.link(3, 1, 1);
        x.link(4, 0, 2);
        x.link(0, 0, 3);
        x.link(0, 1, 0);
        return x;
    }

    private static void referencesFollow() {
        sentence("all references to them follow, as they are to objects, not to addresses");
        Made after = () -> given(manyReferences(), 0, 2);
        answers("a survivor's to itself", after, x -> x.object(1, 3), 1);
        answers("a survivor's to another", after, x -> x.object(1, 4), 2);
        answers("another arena's", after, x -> x.object(3, 4), 1);
        answers("the other arena's", after, x -> x.object(4, 3), 2);
        sentence("All other objects of the returned arena are gone; fields that refer to them"
                + " refer to none then");
        refused("the object that does not survive", after, INDEX, x -> x.object(0, 2));
        answers("a field that refers to it", after, x -> x.object(3, 3), NONE);
        answers("its own fields are gone with it", after, x -> x.count(4), 4);
        answers("the object to which it referred", after, x -> x.object(3, 10), 0);
        answers("fields of the other arena", () -> given(with(2, "1", "1<1;1"), 0, 1),
                x -> x.count(4), 1);
        answers("none left of 46 references", () -> {
            MarkArenas x = opened(2);
            x.make(0, 1);
            makeMany(x, 1, 23, 1);
            for (int number = 1; number < 24; number++) {
                x.link(number, 0, 0);
                x.link(number, 1, 0);
            }
            return given(x, 0, 1);
        }, x -> x.count(4), 0);
    }

    private static void returnedIsFree() {
        sentence("The returned arena is free, its mark 0");
        Made after = () -> given(manyReferences(), 0, 2);
        answers("free", after, x -> x.arena(0, 0), 0);
        answers("its mark", after, x -> x.arena(0, 1), 0);
        answers("its objects", after, x -> x.arena(0, 2), 0);
        answers("its first cell", after, x -> x.at(0, 0), NONE);
        answers("it is opened again", after, x -> x.open(), 0);
        refused("nothing is made in it", after, STATE, x -> x.make(0, 1));
        answers("an empty one", () -> given(opened(2), 1, 0), x -> x.arena(1, 0), 0);
    }

    /** In the arena 1, from its cell 0 on: 2, 6, 0, 4, 1; elsewhere: 3 in arena 4, 5 and 7 in 5. */
    private static MarkArenas manyOrders(int order) {
        MarkArenas x = opened(6);
        int[] arenas = {0, 3, 2, 4, 0, 5, 2, 5};
        int[] sizes = {1, 2, 3, 1, 4, 1, 5, 1};
        for (int number = 0; number < 8; number++) {
            x.make(arenas[number], sizes[number]);
            x.root(number, true);
        }
        x.giveBack(2, 1);
        x.giveBack(0, 1);
        x.giveBack(3, 1);
        for (int number = 0; number < 8; number++) {
            x.root(number, false);
        }
        x.set(1, order);
        return x;
    }

    private static void dueOrder(String what, Made made, int... numbers) {
        MarkArenas x = made.now();
        int address = x.arena(4, 1);
        for (int number : numbers) {
            due(what + ": ifGiven(" + number + ", 4)", x.ifGiven(number, 4), address);
            address += x.object(number, 2);
        }
        int survivors = x.giveBack(1, 4);
        due(what + ": survivors", survivors, numbers.length);
        address = x.arena(4, 1);
        for (int i = numbers.length - 1; i >= 0; i--) {
            address -= x.object(numbers[i], 2);
            due(what + ": address of " + numbers[i], x.object(numbers[i], 1), address);
        }
    }

    private static Made rooted(int order, int... roots) {
        return () -> {
            MarkArenas x = manyOrders(order);
            for (int number : roots) {
                x.root(number, true);
            }
            return x;
        };
    }

    private static void ordersByAddressAndNumber() {
        sentence("with setting 1 as 0: by ascending addresses; as 1: by ascending numbers");
        MarkArenas x = manyOrders(0);
        int[] rowed = {2, 6, 0, 4, 1};
        for (int i = 1; i < rowed.length; i++) {
            boolean behind = x.object(rowed[i], 1) > x.object(rowed[i - 1], 1);
            due("object " + rowed[i] + " lies behind " + rowed[i - 1], behind ? 1 : 0, 1);
        }
        dueOrder("as 0, all", rooted(0, 0, 1, 2, 4, 6), 2, 6, 0, 4, 1);
        dueOrder("as 1, all", rooted(1, 0, 1, 2, 4, 6), 0, 1, 2, 4, 6);
        dueOrder("as 0, one", rooted(0, 1), 1);
        dueOrder("as 1, one", rooted(1, 1), 1);
        dueOrder("as 2, one", rooted(2, 1), 1);
        dueOrder("as 0, none", rooted(0));
        dueOrder("as 1, none", rooted(1));
        dueOrder("as 2, none", rooted(2));
    }

    private static void orderAsMet() {
        sentence("as 2: in the order in which they are met from the roots: first all roots, by"
                + " ascending numbers, of any arena");
        dueOrder("roots by numbers, not addresses", rooted(2, 6, 4, 2, 0), 0, 2, 4, 6);
        dueOrder("a root in another arena leads to one before a later root's", () -> {
            MarkArenas x = rooted(2, 3, 4).now();
            x.link(3, 1, 6);
            x.link(4, 0, 1);
            return x;
        }, 4, 6, 1);
        sentence("then, for each object met, in the order of meeting, the objects of its fields 0"
                + " and 1, if they were not met so far");
        dueOrder("the field 0 before the field 1", () -> {
            MarkArenas x = rooted(2, 7).now();
            x.link(7, 0, 4);
            x.link(7, 1, 2);
            return x;
        }, 4, 2);
        dueOrder("both fields before what these lead to", () -> {
            MarkArenas x = rooted(2, 4).now();
            x.link(4, 0, 6);
            x.link(4, 1, 0);
            x.link(6, 0, 2);
            x.link(0, 0, 1);
            return x;
        }, 4, 6, 0, 2, 1);
        dueOrder("one that was met stays where it was met", () -> {
            MarkArenas x = rooted(2, 1, 6).now();
            x.link(1, 0, 6);
            x.link(1, 1, 2);
            x.link(6, 0, 1);
            x.link(6, 1, 0);
            x.link(2, 0, 0);
            x.link(2, 1, 2);
            return x;
        }, 1, 6, 2, 0);
        dueOrder("through another arena and back", () -> {
            MarkArenas x = rooted(2, 2).now();
            x.link(2, 0, 5);
            x.link(2, 1, 1);
            x.link(5, 0, 7);
            x.link(5, 1, 0);
            x.link(1, 0, 4);
            return x;
        }, 2, 1, 0, 4);
    }

    private static void orderOfThoseNotMet() {
        sentence("survivors that are not met like this behind all others, by ascending addresses");
        dueOrder("one is met, the others are not", () -> {
            MarkArenas x = rooted(2, 1).now();
            x.set(0, 1);
            x.link(7, 0, 0);
            x.link(7, 1, 6);
            x.link(5, 0, 2);
            x.link(5, 1, 4);
            return x;
        }, 1, 2, 6, 0, 4);
        dueOrder("none is met", () -> {
            MarkArenas x = rooted(2).now();
            x.set(0, 1);
            x.link(7, 0, 1);
            x.link(1, 0, 4);
            x.link(1, 1, 6);
            return x;
        }, 6, 4, 1);
        dueOrder("24 objects: one that was met last, and one that was not, at the address 0", () -> {
            MarkArenas x = opened(5);
            x.make(1, 1);
            makeMany(x, 1, 22, 1);
            x.make(0, 1);
            x.link(23, 0, 0);
            x.root(1, true);
            for (int number = 1; number < 22; number++) {
                x.link(number, 1, number + 1);
            }
            x.set(0, 1);
            x.set(1, 2);
            return x;
        }, 1, 2, 3, 4, 5, 6, 7, 8, 9, 10, 11, 12, 13, 14, 15, 16, 17, 18, 19, 20, 21, 22, 0);
    }

    private static void keptArenas() {
        sentence("An arena with a pinned object that survives is kept: it cannot be returned");
        Made pinnedDead = () -> {
            MarkArenas x = with(3, "1r;1", "1");
            x.pin(1, true);
            return x;
        };
        Made pinnedAlive = () -> {
            MarkArenas x = pinnedDead.now();
            x.pin(0, true);
            return x;
        };
        answers("pinned, but it does not survive", pinnedDead, x -> x.arena(0, 6), 0);
        answers("pinned, but it does not survive: returned", pinnedDead, x -> x.giveBack(0, 2), 1);
        answers("pinned and surviving", pinnedAlive, x -> x.arena(0, 6), 1);
        refused("pinned and surviving: not returned", pinnedAlive, STATE, x -> x.giveBack(0, 2));
        refused("pinned and surviving: not closed", pinnedAlive, STATE, x -> x.close(0));
        answers("others can be returned into it", pinnedAlive, x -> x.giveBack(1, 0), 0);
        answers("pinned no more", () -> {
            MarkArenas x = pinnedAlive.now();
            x.pin(0, false);
            return x;
        }, x -> x.giveBack(0, 2), 1);
        Made pinnedRemembered = () -> {
            MarkArenas x = pinnedDead.now();
            x.link(2, 0, 1);
            x.set(0, 1);
            return x;
        };
        answers("pinned and remembered", pinnedRemembered, x -> x.arena(0, 6), 1);
        refused("pinned and remembered: not returned", pinnedRemembered, STATE,
                x -> x.giveBack(0, 1));
        answers("pinned and not remembered any more", () -> {
            MarkArenas x = pinnedRemembered.now();
            x.set(0, 0);
            return x;
        }, x -> x.giveBack(0, 1), 1);
    }

    // ---- Terms: settings

    private static void settings() {
        head("Terms, settings");
        sentence("0: 1 if references from other arenas keep objects alive, otherwise 0, at first 0;"
                + " 1: the order of survivors, 0 to 2, at first 0");
        answers("setting 0 at first", MarkArenas::new, x -> x.setting(0), 0);
        answers("setting 1 at first", MarkArenas::new, x -> x.setting(1), 0);
        int[] most = {1, 2};
        for (int setting = 0; setting < 2; setting++) {
            int s = setting;
            for (int value = 0; value <= most[s]; value++) {
                int v = value;
                answers("setting " + s + " as " + v, () -> {
                    MarkArenas x = new MarkArenas();
                    x.set(s, v);
                    return x;
                }, x -> x.setting(s), v);
            }
            refused("setting " + s + " as -1", MarkArenas::new, ARGUMENT, x -> x.set(s, -1));
            refused("setting " + s + " as " + (most[s] + 1), MarkArenas::new, ARGUMENT,
                    x -> x.set(s, most[s] + 1));
        }
    }

    // ---- Terms: input text

    private static void buffer() {
        head("Terms, input text");
        sentence("The buffer has at most 60 characters");
        String fiftyNine = "1r<0;2<13;1r<0;2<13;1r<0;2<13;1r<0;2<13;1r<0;2<13;1r<0;2<13";
        answers("the 60th", () -> typed(fiftyNine), x -> x.append(';'), 60);
        refused("the 61st", () -> typed(fiftyNine + ";"), STATE, x -> x.append('1'));
        answers("60 without an error", () -> typed(fiftyNine + ";"), x -> x.firstError(), 60);
        answers("the 60th is the error", () -> typed(fiftyNine + "0"), x -> x.firstError(), 59);
        String sixty = "10r<0;1r<0;1r<0;1r<0;1r<0;1r<0;1r<0;1r<0;1r<0;1r<0;1r<0;1r<9";
        answers("60 characters are complete objects", () -> {
            MarkArenas x = opened(1);
            type(x, sixty);
            return x;
        }, x -> x.makeAll(0), 12);
        answers("the 60th is read", () -> {
            MarkArenas x = opened(1);
            madeOf(x, 0, sixty);
            return x;
        }, x -> x.object(9, 3), 11);
    }

    private static void dueComplete(String text, boolean complete) {
        Made made = () -> {
            MarkArenas x = opened(1);
            type(x, text);
            return x;
        };
        if (complete) {
            due("firstError of " + text, errorOf(text), text.length());
            undoable("makeAll of " + text, made, x -> x.makeAll(0));
        } else {
            refused("makeAll of " + text, made, ARGUMENT, x -> x.makeAll(0));
        }
    }

    private static void parts() {
        sentence("Objects as a text are one or more parts with \";\" between them");
        dueComplete("", false);
        dueComplete("1", true);
        dueComplete("1;1", true);
        dueComplete("1;", false);
        dueComplete(";1", false);
        dueComplete("1;;1", false);
        sentence("each a size, 1 to 16, without a leading zero");
        for (int size = 0; size <= 20; size++) {
            dueComplete(Integer.toString(size), size >= 1 && size <= 16);
        }
        for (String text : new String[] {"00", "01", "09", "016", "010", "100", "160", "161"}) {
            dueComplete(text, false);
        }
        sentence("perhaps \"r\" (it is a root)");
        dueComplete("16r", true);
        dueComplete("16rr", false);
        dueComplete("r", false);
        dueComplete("r1", false);
        answers("with r", () -> with(1, "1r"), x -> x.object(0, 5), 1);
        answers("without r", () -> with(1, "1r;1"), x -> x.object(1, 5), 0);
        sentence("perhaps \"<\" and the number of an object, 0 to 23, without a leading zero");
        for (int number = 0; number <= 30; number++) {
            dueComplete("1<" + number, number <= 23);
            dueComplete("1r<" + number, number <= 23);
        }
        for (String text : new String[] {"<", "00", "01", "023", "230", "100", "-1", "", "r", "0r",
            "0<0", ";"}) {
            dueComplete("1<" + text, false);
        }
    }

    /** Each text that is a way to begin, and the characters that may stand behind it. */
    private static final String[][] BEHIND = {
        {"", "123456789"}, {"1", "0123456r<;"}, {"2", "r<;"}, {"9", "r<;"}, {"10", "r<;"},
        {"16", "r<;"}, {"1r", "<;"}, {"16r", "<;"}, {"1<", "0123456789"}, {"1r<", "0123456789"},
        {"1<0", ";"}, {"1<1", "0123456789;"}, {"1<2", "0123;"}, {"1<3", ";"}, {"1<9", ";"},
        {"1<10", ";"}, {"1<19", ";"}, {"1<20", ";"}, {"1<23", ";"}, {"1r<2", "0123;"},
        {"1;", "123456789"}, {"1r<23;", "123456789"}, {"1;1", "0123456r<;"}, {"1;2", "r<;"},
        {"16r<23;16r<2", "0123;"},
    };

    private static void errors() {
        sentence("a character is a syntax error if no objects as a text, of any length, begin with"
                + " the characters before it and this character");
        for (String[] row : BEHIND) {
            for (char sign = 33; sign <= 126; sign++) {
                int want = row[0].length() + (row[1].indexOf(sign) >= 0 ? 1 : 0);
                due("firstError of " + row[0] + sign, errorOf(row[0] + sign), want);
            }
        }
        due("the first of several", errorOf("1x0x"), 1);
        due("what is right alone, behind an error", errorOf("0;1"), 0);
        due("complete texts longer than the buffer", errorOf("1<1;1<1;1<1;1<1;1<1;1<1;1<1;1<1;"
                + "1<1;1<1;1<1;1<1;1<1;1<1;1<1;"), 60);
    }

    // ---- Terms: undo

    private static MarkArenas twoObjects() {
        return with(2, "1r;2<0");
    }

    private static void undo() {
        head("Terms, undo");
        sentence("Each method that is marked \"undoable\" and does not throw an exception saves"
                + " the state from before it (also if it changes nothing)");
        undoable("open", TermTests::twoObjects, x -> x.open());
        undoable("make", TermTests::twoObjects, x -> x.make(1, 16));
        undoable("link", TermTests::twoObjects, x -> x.link(1, 1, 0));
        undoable("link of nothing else", TermTests::twoObjects, x -> x.link(0, 0, 1));
        undoable("link of none to none", TermTests::twoObjects, x -> x.link(0, 1, NONE));
        undoable("root", TermTests::twoObjects, x -> x.root(0, false));
        undoable("root of a root", TermTests::twoObjects, x -> x.root(0, true));
        undoable("no root of none", TermTests::twoObjects, x -> x.root(1, false));
        undoable("pin", TermTests::twoObjects, x -> x.pin(0, true));
        undoable("no pin of none", TermTests::twoObjects, x -> x.pin(0, false));
        undoable("giveBack", TermTests::twoObjects, x -> x.giveBack(0, 1));
        undoable("giveBack of an empty one", TermTests::twoObjects, x -> x.giveBack(1, 0));
        undoable("close", () -> with(1, "1;2<0"), x -> x.close(0));
        undoable("close of an empty one", TermTests::twoObjects, x -> x.close(1));
        undoable("set(0, ..)", TermTests::twoObjects, x -> x.set(0, 1));
        undoable("set(1, ..)", TermTests::twoObjects, x -> x.set(1, 2));
        undoable("set of the same", TermTests::twoObjects, x -> x.set(0, 0));
        undoable("makeAll", TermTests::twoObjects, x -> madeOf(x, 1, "3r<0;4"));
        undoable("makeAll of none", TermTests::twoObjects, x -> madeOf(x, 1, "3r<23;4"));
        answers("append saves nothing", TermTests::twoObjects, x -> {
            x.append('1');
            return x.count(10);
        }, 3);
        answers("clearBuffer saves nothing", TermTests::twoObjects, x -> {
            x.clearBuffer();
            return x.count(10);
        }, 3);
        answers("a call that throws saves nothing", TermTests::twoObjects, x -> {
            refused("root", x, INDEX, () -> x.root(2, true));
            return x.count(10);
        }, 3);
    }

    private static void undoBringsBack() {
        sentence("all, also what is counted so far, but the buffer and the saved states");
        Made much = () -> {
            MarkArenas x = opened(3);
            madeOf(x, 0, "1r;2<0;3");
            x.pin(2, true);
            x.set(0, 1);
            x.set(1, 2);
            return x;
        };
        for (int calls = 1; calls <= 6; calls++) {
            MarkArenas x = much.now();
            for (int call = 0; call < calls; call++) {
                changeMuch(x, call);
            }
            for (int call = 0; call < calls; call++) {
                x.undo();
            }
            due(calls + " calls, undone", withoutSaved(x), withoutSaved(much.now()));
        }
        answers("the buffer stays as it is", TermTests::twoObjects, x -> {
            type(x, "1;2");
            x.make(1, 1);
            type(x, ";3");
            x.undo();
            return x.makeAll(1);
        }, 3);
        answers("a buffer that was cleared stays so", TermTests::twoObjects, x -> {
            madeOf(x, 1, "1");
            x.undo();
            return x.clearBuffer();
        }, 0);
    }

    private static void changeMuch(MarkArenas x, int call) {
        switch (call) {
            case 0: x.giveBack(0, 1); break;
            case 1: x.open(); break;
            case 2: madeOf(x, 0, "16;1<0;2<1"); break;
            case 3: x.close(2); break;
            case 4: x.root(1, true); break;
            default: x.giveBack(1, 0); break;
        }
    }

    private static void sixStates() {
        sentence("At most 6 states are saved; the oldest one is dropped first");
        for (int calls = 0; calls <= 14; calls++) {
            MarkArenas x = new MarkArenas();
            for (int call = 1; call <= calls; call++) {
                if (call % 2 == 1) {
                    x.open();
                } else {
                    x.close(0);
                }
            }
            int kept = calls < 6 ? calls : 6;
            due("saved after " + calls, x.count(10), kept);
            for (int undone = 1; undone <= kept; undone++) {
                due("undo " + undone + " of " + calls, x.undo(), kept - undone);
                due("opened", x.arena(0, 7), (calls - undone + 1) / 2);
                due("returned", x.count(9), (calls - undone) / 2);
            }
            refused("undo beyond the oldest of " + calls, x, STATE, () -> x.undo());
        }
        for (int undone = 1; undone <= 6; undone++) {
            savedAfterUndo(undone);
        }
    }

    private static void savedAfterUndo(int undone) {
        MarkArenas x = opened(1);
        makeMany(x, 0, 8, 1);
        for (int i = 0; i < undone; i++) {
            x.undo();
        }
        int objects = 8 - undone;
        makeMany(x, 0, 4, 2);
        int saved = undone >= 4 ? 10 - undone : 6;
        due("saved, undone " + undone + " and saved 4", x.count(10), saved);
        for (int i = 0; i < saved; i++) {
            x.undo();
            int left = objects + 3 - i;
            due("objects after undo " + i, x.count(0), left);
            due("cells after undo " + i, x.arena(0, 1), left + (left > objects ? left - objects : 0));
        }
        refused("undo once more", x, STATE, () -> x.undo());
    }

    // ---- Terms: exceptions

    /** Full: 24 objects, 60 characters, 6 saved states, 5 open arenas, one of them kept. */
    private static MarkArenas full() {
        MarkArenas x = opened(5);
        makeMany(x, 0, 4, 16);
        makeMany(x, 1, 20, 3);
        x.root(0, true);
        x.link(0, 0, 4);
        x.link(4, 1, 0);
        x.pin(4, true);
        type(x, "1r<0;2<13;1r<0;2<13;1r<0;2<13;1r<0;2<13;1r<0;2<13;1r<0;2<13;");
        return x;
    }

    private static void exceptions() {
        head("Terms, exceptions");
        sentence("A call that throws an exception changes nothing");
        refused("open", () -> {
            MarkArenas x = full();
            x.open();
            return x;
        }, STATE, x -> x.open());
        refused("make", TermTests::full, STATE, x -> x.make(1, 1));
        refused("link", TermTests::full, INDEX, x -> x.link(0, 0, 24));
        refused("root", TermTests::full, INDEX, x -> x.root(24, true));
        refused("pin", TermTests::full, INDEX, x -> x.pin(24, true));
        refused("giveBack of a kept one", TermTests::full, STATE, x -> x.giveBack(1, 2));
        refused("giveBack without room", () -> {
            MarkArenas x = full();
            x.pin(4, false);
            return x;
        }, STATE, x -> x.giveBack(1, 0));
        refused("giveBack into a free one", TermTests::full, STATE, x -> x.giveBack(0, 5));
        refused("close", TermTests::full, STATE, x -> x.close(0));
        refused("set", TermTests::full, ARGUMENT, x -> x.set(1, 3));
        refused("append", TermTests::full, STATE, x -> x.append('1'));
        refused("makeAll", TermTests::full, ARGUMENT, x -> x.makeAll(0));
        refused("undo", MarkArenas::new, STATE, x -> x.undo());
        refused("object", TermTests::full, ARGUMENT, x -> x.object(0, 12));
        refused("arena", TermTests::full, ARGUMENT, x -> x.arena(0, 8));
        refused("at", TermTests::full, INDEX, x -> x.at(0, 64));
        refused("count", TermTests::full, ARGUMENT, x -> x.count(11));
        refused("setting", TermTests::full, INDEX, x -> x.setting(2));
        refused("whyNot", TermTests::full, INDEX, x -> x.whyNot(0, 6));
        refused("ifGiven", TermTests::full, INDEX, x -> x.ifGiven(0, 6));
        refused("ifLost", TermTests::full, INDEX, x -> x.ifLost(24));
    }

    private static void firstNamedException() {
        sentence("If several exceptions apply, the one that is named first in the throws clause is"
                + " thrown");
        refused("make: index, argument, state", TermTests::full, INDEX, x -> x.make(6, 17));
        refused("make: index, state", TermTests::full, INDEX, x -> x.make(6, 16));
        refused("make: argument, state", TermTests::full, ARGUMENT, x -> x.make(5, 17));
        refused("giveBack: index, argument, state", TermTests::full, INDEX, x -> x.giveBack(6, 6));
        refused("giveBack: index, state, the first", TermTests::full, INDEX, x -> x.giveBack(6, 5));
        refused("giveBack: index, state, the second", TermTests::full, INDEX,
                x -> x.giveBack(5, 6));
        refused("giveBack: argument, state", TermTests::full, ARGUMENT, x -> x.giveBack(5, 5));
        refused("close: index, state", TermTests::full, INDEX, x -> x.close(6));
        refused("set: index, argument", TermTests::full, INDEX, x -> x.set(2, 3));
        refused("append: argument, state", TermTests::full, ARGUMENT, x -> x.append(127));
        refused("makeAll: index, argument, state", TermTests::full, INDEX, x -> x.makeAll(6));
        refused("makeAll: argument, state", TermTests::full, ARGUMENT, x -> x.makeAll(5));
        refused("object: index, argument", TermTests::full, INDEX, x -> x.object(24, 12));
        refused("arena: index, argument", TermTests::full, INDEX, x -> x.arena(6, 8));
    }

    private static void calls() {
        head("What it is");
        sentence("An object is used for at most 512 calls after it has been made");
        MarkArenas x = new MarkArenas();
        for (int call = 1; call < 512; call++) {
            due("call " + call, call % 2 == 1 ? x.open() : x.close(0), 0);
        }
        due("the 512th call", x.arena(0, 7), 256);
    }

    private static void constants() {
        head("The constants");
        sentence("NONE = -1");
        due("NONE", MarkArenas.NONE, -1);
    }

    public static void main(String[] args) {
        sixArenas();
        sixtyFourCells();
        freeOrOpen();
        marks();
        twentyFourObjects();
        sizes();
        twoFields();
        lowestNumbers();
        goneByReturnAlone();
        livingByRoots();
        livingByMemory();
        livingByWhatIsRemembered();
        whoSurvives();
        survivorsAreLaid();
        referencesFollow();
        returnedIsFree();
        ordersByAddressAndNumber();
        orderAsMet();
        orderOfThoseNotMet();
        keptArenas();
        settings();
        buffer();
        parts();
        errors();
        undo();
        undoBringsBack();
        sixStates();
        exceptions();
        firstNamedException();
        calls();
        constants();
        end("TermTests");
    }
}
