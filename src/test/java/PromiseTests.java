/** For each promise of the document: ordinary calls, the edges that it names, and wrong calls. */
public final class PromiseTests extends Checks {
    private static void newObject() {
        MarkArenas x = new MarkArenas();
        for (int arena = 0; arena < 6; arena++) {
            for (int what = 0; what < 8; what++) {
                due("new: arena(" + arena + ", " + what + ")", x.arena(arena, what), 0);
            }
            for (int cell = 0; cell < 64; cell++) {
                due("new: at(" + arena + ", " + cell + ")", x.at(arena, cell), NONE);
            }
        }
        newObjectElse();
    }

    private static void newObjectElse() {
        MarkArenas x = new MarkArenas();
        for (int what = 0; what < 11; what++) {
            due("new: count(" + what + ")", x.count(what), 0);
        }
        due("new: setting(0)", x.setting(0), 0);
        due("new: setting(1)", x.setting(1), 0);
        due("new: clearBuffer()", x.clearBuffer(), 0);
        due("new: firstError()", x.firstError(), 0);
        for (int number = 0; number < 24; number++) {
            int n = number;
            refused("new: object(" + n + ", 0)", x, INDEX, () -> x.object(n, 0));
        }
        refused("new: undo()", x, STATE, () -> x.undo());
    }

    private static void open() {
        MarkArenas x = new MarkArenas();
        for (int arena = 0; arena < 6; arena++) {
            due("open()", x.open(), arena);
            due("open: arena(.., 0)", x.arena(arena, 0), 1);
            due("open: arena(.., 7)", x.arena(arena, 7), 1);
            due("open: count(2)", x.count(2), arena + 1);
        }
        refused("open() of a seventh", x, STATE, () -> x.open());
        x.close(3);
        x.close(1);
        due("open() of the lowest free one", x.open(), 1);
        due("open: opened twice", x.arena(1, 7), 2);
        due("open() of the next free one", x.open(), 3);
        x.undo();
        due("open: undone", x.arena(3, 0), 0);
        due("open: undone, not counted", x.arena(3, 7), 1);
    }

    private static void make() {
        MarkArenas x = opened(2);
        due("make of 1", x.make(0, 1), 0);
        due("make of 16", x.make(1, 16), 1);
        due("make behind the mark", x.make(0, 5), 2);
        due("make: arena", x.object(2, 0), 0);
        due("make: address", x.object(2, 1), 1);
        due("make: size", x.object(2, 2), 5);
        due("make: field 0", x.object(2, 3), NONE);
        due("make: field 1", x.object(2, 4), NONE);
        due("make: no root", x.object(2, 5), 0);
        due("make: not pinned", x.object(2, 6), 0);
        due("make: mark", x.arena(0, 1), 6);
        due("make: count(6)", x.count(6), 3);
        refused("make(-1, ..)", x, INDEX, () -> x.make(-1, 1));
        refused("make(6, ..)", x, INDEX, () -> x.make(6, 0));
        refused("make(.., 0)", x, ARGUMENT, () -> x.make(0, 0));
        refused("make(.., 17) of a free arena", x, ARGUMENT, () -> x.make(5, 17));
        refused("make(.., -1)", x, ARGUMENT, () -> x.make(0, -1));
        refused("make in a free arena", x, STATE, () -> x.make(2, 1));
        refused("make(MIN, MIN)", x, INDEX,
                () -> x.make(Integer.MIN_VALUE, Integer.MIN_VALUE));
        refused("make(.., MAX)", x, ARGUMENT, () -> x.make(0, Integer.MAX_VALUE));
        makeMany(x, 1, 3, 16);
        due("make: full", x.arena(1, 1), 64);
        refused("make in a full arena", x, STATE, () -> x.make(1, 1));
        makeMany(x, 0, 3, 16);
        refused("make of 11 with room for 10", x, STATE, () -> x.make(0, 11));
        due("make of 10 with room for 10", x.make(0, 10), 9);
        due("make: last cell", x.at(0, 63), 9);
        lowestNumbers();
    }

    private static void lowestNumbers() {
        MarkArenas x = opened(3);
        makeMany(x, 0, 24, 1);
        refused("make of a 25th", x, STATE, () -> x.make(1, 1));
        x.root(3, true);
        x.root(20, true);
        x.pin(7, true);
        x.link(7, 0, 3);
        x.link(7, 1, 7);
        x.giveBack(0, 1);
        due("make: the lowest number", x.make(2, 2), 0);
        makeMany(x, 2, 2, 1);
        due("make: past a used number", x.make(2, 1), 4);
        makeMany(x, 2, 2, 1);
        due("make: a number again", x.make(2, 1), 7);
        due("make again: field 0", x.object(7, 3), NONE);
        due("make again: field 1", x.object(7, 4), NONE);
        due("make again: not pinned", x.object(7, 6), 0);
        due("make again: not laid anew", x.object(7, 9), 0);
        x.root(20, false);
        x.giveBack(1, 2);
        makeMany(x, 2, 15, 1);
        due("make again: no root", x.object(20, 5), 0);
        due("make again: not laid anew, its number was", x.object(20, 9), 0);
        due("make again: the root stays", x.object(3, 9), 2);
    }

    private static void link() {
        MarkArenas x = opened(2);
        makeMany(x, 0, 2, 1);
        x.make(1, 1);
        due("link to another", x.link(0, 0, 1), NONE);
        due("link to itself", x.link(0, 1, 0), NONE);
        due("link elsewhere", x.link(0, 0, 2), 1);
        due("link: field 0", x.object(0, 3), 2);
        due("link: field 1", x.object(0, 4), 0);
        due("link: none before", x.object(2, 10), 1);
        due("link to none", x.link(0, 0, NONE), 2);
        due("link to none again", x.link(0, 0, NONE), NONE);
        refused("link(3, ..)", x, INDEX, () -> x.link(3, 0, 0));
        refused("link(-1, ..)", x, INDEX, () -> x.link(-1, 0, NONE));
        refused("link(24, ..)", x, INDEX, () -> x.link(24, 0, NONE));
        refused("link(.., -1, ..)", x, INDEX, () -> x.link(0, -1, 0));
        refused("link(.., 2, ..)", x, INDEX, () -> x.link(0, 2, 0));
        refused("link(.., 3)", x, INDEX, () -> x.link(0, 0, 3));
        refused("link(.., -2)", x, INDEX, () -> x.link(0, 0, -2));
        refused("link(.., 24)", x, INDEX, () -> x.link(0, 0, 24));
    }

    private static void root() {
        MarkArenas x = opened(1);
        x.make(0, 1);
        due("root, was none", x.root(0, true), 0);
        due("root, was one", x.root(0, true), 1);
        due("root: object(.., 5)", x.object(0, 5), 1);
        due("root no more", x.root(0, false), 1);
        due("root none again", x.root(0, false), 0);
        due("root: four saved, and two before", x.count(10), 6);
        refused("root(1, ..)", x, INDEX, () -> x.root(1, true));
        refused("root(-1, ..)", x, INDEX, () -> x.root(-1, true));
        refused("root(24, ..)", x, INDEX, () -> x.root(24, false));
    }

    private static void pin() {
        MarkArenas x = opened(2);
        makeMany(x, 0, 3, 1);
        makeMany(x, 1, 1, 1);
        due("pin the first", x.pin(0, true), 1);
        due("pin another", x.pin(2, true), 2);
        due("pin it again", x.pin(2, true), 2);
        due("pin in another arena", x.pin(3, true), 1);
        due("pin no more", x.pin(0, false), 1);
        due("pin: object(.., 6)", x.object(2, 6), 1);
        due("pin: not any more", x.object(0, 6), 0);
        due("pin: arena(.., 5)", x.arena(0, 5), 1);
        due("pin: arena(.., 6), it does not survive", x.arena(0, 6), 0);
        refused("pin(4, ..)", x, INDEX, () -> x.pin(4, true));
        refused("pin(-1, ..)", x, INDEX, () -> x.pin(-1, false));
        due("pinned, but gone", x.close(0), 3);
    }

    private static void giveBack() {
        MarkArenas x = opened(4);
        x.make(0, 3);
        x.make(0, 4);
        x.make(0, 2);
        x.make(1, 5);
        x.root(0, true);
        x.root(2, true);
        x.link(2, 0, 0);
        x.link(3, 0, 1);
        x.link(3, 1, 2);
        refused("giveBack(6, ..)", x, INDEX, () -> x.giveBack(6, 6));
        refused("giveBack(6, 0)", x, INDEX, () -> x.giveBack(6, 0));
        refused("giveBack(-1, 0)", x, INDEX, () -> x.giveBack(-1, 0));
        refused("giveBack(.., 6)", x, INDEX, () -> x.giveBack(0, 6));
        refused("giveBack(.., -1)", x, INDEX, () -> x.giveBack(0, -1));
        refused("giveBack to itself", x, ARGUMENT, () -> x.giveBack(0, 0));
        refused("giveBack of a free one to itself", x, ARGUMENT, () -> x.giveBack(5, 5));
        refused("giveBack of a free one", x, STATE, () -> x.giveBack(5, 0));
        refused("giveBack into a free one", x, STATE, () -> x.giveBack(0, 4));
        due("giveBack", x.giveBack(0, 1), 2);
        due("giveBack: arena", x.object(0, 0), 1);
        due("giveBack: first address", x.object(0, 1), 5);
        due("giveBack: second address", x.object(2, 1), 8);
        due("giveBack: mark", x.arena(1, 1), 10);
        due("giveBack: free", x.arena(0, 0), 0);
        due("giveBack: its mark", x.arena(0, 1), 0);
        due("giveBack: opened so far stays", x.arena(0, 7), 1);
        due("giveBack: a reference between survivors", x.object(2, 3), 0);
        due("giveBack: a reference to one gone", x.object(3, 3), NONE);
        due("giveBack: a reference to a survivor", x.object(3, 4), 2);
        due("giveBack: size stays", x.object(2, 2), 2);
        due("giveBack: a root still", x.object(2, 5), 1);
        due("giveBack: laid anew", x.object(2, 9), 1);
        due("giveBack: laid anew so far", x.count(7), 2);
        due("giveBack: gone so far", x.count(8), 1);
        due("giveBack: returned so far", x.count(9), 1);
        refused("giveBack: the one gone", x, INDEX, () -> x.object(1, 0));
        due("giveBack of an empty one", x.giveBack(3, 1), 0);
        undoneReturn();
        pinnedAndFull();
    }

    private static void undoneReturn() {
        MarkArenas x = opened(3);
        makeMany(x, 0, 3, 2);
        x.make(1, 7);
        x.root(2, true);
        x.link(3, 0, 1);
        x.giveBack(0, 1);
        x.make(2, 5);
        x.undo();
        x.undo();
        due("giveBack undone: address", x.object(2, 1), 4);
        due("giveBack undone: arena", x.object(2, 0), 0);
        due("giveBack undone: one that was gone", x.object(0, 2), 2);
        due("giveBack undone: a reference to one that was gone", x.object(3, 3), 1);
        due("giveBack undone: mark", x.arena(1, 1), 7);
        due("giveBack undone: laid anew so far", x.count(7), 0);
        due("giveBack undone: gone so far", x.count(8), 0);
        due("giveBack undone: returned so far", x.count(9), 0);
        x.make(0, 1);
        x.make(0, 9);
        x.undo();
        x.make(0, 8);
        x.undo();
        x.make(2, 6);
        due("make after undo: another size", x.object(5, 2), 6);
        x.undo();
        x.undo();
        x.root(2, false);
        x.close(0);
        x.make(1, 16);
        x.undo();
        x.undo();
        due("close undone: gone so far", x.count(8), 0);
        due("close undone: size", x.object(0, 2), 2);
        due("close undone: a field of the first", x.object(3, 3), 1);
    }

    private static void pinnedAndFull() {
        MarkArenas x = opened(3);
        makeMany(x, 0, 4, 16);
        makeMany(x, 1, 3, 16);
        x.root(0, true);
        x.pin(1, true);
        due("pinned without life: not kept", x.whyNot(0, 2), 0);
        x.link(0, 0, 1);
        due("pinned and living: kept", x.whyNot(0, 2), 3);
        refused("giveBack of a kept one", x, STATE, () -> x.giveBack(0, 2));
        x.pin(1, false);
        x.make(1, 1);
        due("no room", x.whyNot(0, 1), 4);
        refused("giveBack without room", x, STATE, () -> x.giveBack(0, 1));
        x.root(0, false);
        due("no survivors need no room", x.giveBack(1, 0), 0);
        x.root(3, true);
        due("just room enough", x.giveBack(0, 2), 1);
        due("just room enough: mark", x.arena(2, 1), 16);
    }

    private static void orders() {
        for (int order = 0; order < 3; order++) {
            MarkArenas x = opened(4);
            x.make(3, 2);
            x.make(1, 1);
            x.make(2, 2);
            x.make(1, 3);
            x.make(1, 4);
            x.close(3);
            x.make(1, 5);
            x.make(1, 6);
            x.root(2, true);
            x.link(2, 0, 4);
            x.link(2, 1, 0);
            x.link(4, 0, 3);
            x.link(0, 1, 1);
            x.make(2, 1);
            x.link(6, 0, 5);
            x.set(0, 1);
            x.set(1, order);
            // Addresses in arena 1: 1 at 0, 3 at 1, 4 at 4, 0 at 8, 5 at 13; met: 4, 0, 3, 1.
            int[][] wanted = {{11, 3, 0, 4, 7, 16}, {3, 8, 0, 9, 12, 16}, {7, 15, 0, 12, 3, 16}};
            due("order " + order + ": survivors", x.arena(1, 3), 19);
            for (int object = 0; object < 6; object++) {
                if (object != 2) {
                    due("order " + order + ": ifGiven(" + object + ", 2)", x.ifGiven(object, 2),
                            wanted[order][object]);
                }
            }
            x.giveBack(1, 2);
            for (int object = 0; object < 6; object++) {
                if (object != 2) {
                    due("order " + order + ": address of " + object, x.object(object, 1),
                            wanted[order][object]);
                }
            }
        }
    }

    private static void orderOfThoseNotMet() {
        MarkArenas x = opened(4);
        x.make(0, 1);
        x.make(3, 1);
        x.make(1, 9);
        makeMany(x, 1, 3, 3);
        x.close(3);
        x.make(1, 2);
        x.link(0, 0, 4);
        x.link(0, 1, 3);
        x.link(3, 0, 1);
        x.link(4, 1, 2);
        x.root(5, true);
        x.set(0, 1);
        x.set(1, 2);
        // Only 5 is met from the roots; the others follow by ascending addresses: 2, 3, 4, 1.
        int[] wanted = {NONE, 18, 3, 12, 15, 0};
        for (int object = 0; object < 6; object++) {
            due("not met: ifGiven(" + object + ", 2)", x.ifGiven(object, 2), wanted[object]);
        }
        due("not met: giveBack", x.giveBack(1, 2), 5);
        for (int object = 1; object < 6; object++) {
            due("not met: address of " + object, x.object(object, 1), wanted[object]);
        }
        due("the first object's field 0 still refers", x.object(0, 3), 4);
        x.set(0, 0);
        x.close(0);
        due("the first object is gone, so are its references", x.object(4, 10), 0);
    }

    private static void remembering() {
        MarkArenas x = opened(3);
        makeMany(x, 0, 4, 2);
        makeMany(x, 1, 2, 1);
        x.link(4, 0, 0);
        x.link(0, 0, 1);
        x.link(2, 0, 3);
        x.link(3, 0, 2);
        due("not remembered", x.arena(0, 3), 0);
        x.set(0, 1);
        due("remembered from elsewhere, and what it leads to", x.arena(0, 3), 4);
        due("remembered: survives", x.object(1, 8), 1);
        due("remembered: does not live by roots", x.object(1, 7), 0);
        due("remembered: no distance", x.object(1, 11), NONE);
        due("in a ring of its own arena: does not survive", x.object(2, 8), 0);
        due("remembering: its holder does not survive", x.object(4, 8), 0);
        x.link(1, 0, 5);
        x.link(5, 0, 2);
        due("through another arena, by its own references alone", x.arena(0, 3), 8);
        due("what another arena's objects refer to", x.arena(1, 3), 1);
        x.link(5, 0, 5);
        due("a reference to itself does not remember", x.object(5, 8), 1);
        x.link(1, 0, NONE);
        due("a reference to itself alone", x.object(5, 8), 0);
        refused("close with a remembered object", x, STATE, () -> x.close(0));
        due("giveBack of remembered objects", x.giveBack(0, 2), 2);
        due("giveBack: the holder's reference stays", x.object(4, 3), 0);
        due("giveBack: one is not remembered by its return", x.object(0, 8), 1);
    }

    private static void close() {
        MarkArenas x = opened(3);
        makeMany(x, 0, 3, 4);
        x.make(1, 1);
        x.link(3, 0, 1);
        x.link(3, 1, 3);
        x.root(2, true);
        refused("close(6)", x, INDEX, () -> x.close(6));
        refused("close(-1)", x, INDEX, () -> x.close(-1));
        refused("close of a free one", x, STATE, () -> x.close(3));
        refused("close with a survivor", x, STATE, () -> x.close(0));
        x.root(2, false);
        due("close", x.close(0), 3);
        due("close: free", x.arena(0, 0), 0);
        due("close: mark", x.arena(0, 1), 0);
        due("close: a reference to one gone", x.object(3, 3), NONE);
        due("close: a reference to itself stays", x.object(3, 4), 3);
        due("close: gone so far", x.count(8), 3);
        due("close: returned so far", x.count(9), 1);
        due("close: none laid anew", x.count(7), 0);
        due("close of an empty one", x.close(2), 0);
        due("close: returned so far, again", x.count(9), 2);
    }

    private static void settings() {
        MarkArenas x = new MarkArenas();
        due("set(0, 1)", x.set(0, 1), 0);
        due("set(0, 1) again", x.set(0, 1), 1);
        due("set(1, 2)", x.set(1, 2), 0);
        due("set(1, 1)", x.set(1, 1), 2);
        due("setting(0)", x.setting(0), 1);
        due("setting(1)", x.setting(1), 1);
        due("set: saved, changed or not", x.count(10), 4);
        refused("set(2, ..)", x, INDEX, () -> x.set(2, 9));
        refused("set(-1, ..)", x, INDEX, () -> x.set(-1, 0));
        refused("set(0, 2)", x, ARGUMENT, () -> x.set(0, 2));
        refused("set(0, -1)", x, ARGUMENT, () -> x.set(0, -1));
        refused("set(1, 3)", x, ARGUMENT, () -> x.set(1, 3));
        refused("set(1, -1)", x, ARGUMENT, () -> x.set(1, -1));
        refused("setting(2)", x, INDEX, () -> x.setting(2));
        refused("setting(-1)", x, INDEX, () -> x.setting(-1));
        x.undo();
        due("set: undone", x.setting(1), 2);
    }

    private static void buffer() {
        MarkArenas x = new MarkArenas();
        due("append(33)", x.append(33), 1);
        due("append(126)", x.append(126), 2);
        refused("append(32)", x, ARGUMENT, () -> x.append(32));
        refused("append(127)", x, ARGUMENT, () -> x.append(127));
        refused("append(-1)", x, ARGUMENT, () -> x.append(-1));
        for (int length = 3; length <= 60; length++) {
            due("append to " + length, x.append('1'), length);
        }
        refused("append to a full buffer", x, STATE, () -> x.append('1'));
        refused("append of a wrong code to a full buffer", x, ARGUMENT, () -> x.append(200));
        due("clearBuffer()", x.clearBuffer(), 60);
        due("clearBuffer() again", x.clearBuffer(), 0);
        due("append after clearing", x.append('2'), 1);
        due("buffer: nothing saved", x.count(10), 0);
        x.open();
        x.append('3');
        x.undo();
        due("buffer: not undone", x.clearBuffer(), 2);
    }

    private static void errors() {
        String[] right = {"", "1", "9", "10", "16", "1r", "16r", "1<", "1<0", "1<1", "1<2", "1<9",
            "1<10", "1<19", "1<20", "1<23", "16r<23", "1;", "1r;2", "1r<0;16<23;9r;"};
        for (String text : right) {
            due("firstError of " + text, errorOf(text), text.length());
        }
        String[] wrongAtLast = {"0", "r", "<", ";", "x", "17", "19", "20", "91", "100", "160", "1rr",
            "1r1", "1<r", "1<;", "1<<", "1<00", "1<01", "1<24", "1<29", "1<30", "1<99", "1<100",
            "1<230", "1<0r", "1<0<", "1<2r", "1;;", "1;0", "1;r", "1;<", "1 ".replace(' ', '!'),
            "1<1r", "1r<1<", "1R", "1:", "1/", "1</", "1<:", "1<2:", "1<1:", "1<1/", "1<2/"};
        for (String text : wrongAtLast) {
            due("firstError of " + text, errorOf(text), text.length() - 1);
            due("firstError of more than " + text, errorOf(text + "0;1"), text.length() - 1);
        }
        StringBuilder full = new StringBuilder();
        for (int i = 0; i < 30; i++) {
            full.append("1;");
        }
        due("firstError: longer texts count", errorOf(full.toString()), 60);
    }

    private static void makeAll() {
        MarkArenas x = opened(2);
        due("makeAll", madeOf(x, 1, "16r;3<0;10r<1;2<3"), 4);
        due("makeAll: buffer", x.clearBuffer(), 0);
        due("makeAll: size", x.object(2, 2), 10);
        due("makeAll: address", x.object(2, 1), 19);
        due("makeAll: arena", x.object(2, 0), 1);
        due("makeAll: root", x.object(2, 5), 1);
        due("makeAll: no root", x.object(1, 5), 0);
        due("makeAll: field 0", x.object(0, 3), 1);
        due("makeAll: field 1", x.object(0, 4), NONE);
        due("makeAll: itself", x.object(3, 3), 3);
        due("makeAll: saved as one", x.count(10), 3);
        due("makeAll: made so far", x.count(6), 4);
        due("makeAll: a field again", madeOf(x, 0, "1<0"), 1);
        due("makeAll: the field refers to the new one", x.object(0, 3), 4);
        x.undo();
        due("makeAll: undone", x.object(0, 3), 1);
        x.undo();
        due("makeAll: undone as one", x.count(0), 0);
        refused("makeAll(6) of nothing", x, INDEX, () -> x.makeAll(6));
        refused("makeAll(-1)", x, INDEX, () -> x.makeAll(-1));
        refused("makeAll of nothing", x, ARGUMENT, () -> x.makeAll(0));
        String[] incomplete = {"1;", "1<", "x", "0", "17", "1r<", "1;x", "1<24"};
        for (String text : incomplete) {
            type(x, text);
            refused("makeAll of " + text, x, ARGUMENT, () -> x.makeAll(0));
            refused("makeAll of " + text + " in a free one", x, ARGUMENT, () -> x.makeAll(5));
            due("makeAll: the buffer stays", x.clearBuffer(), text.length());
        }
        type(x, "1;1");
        refused("makeAll in a free arena", x, STATE, () -> x.makeAll(2));
        makeAllStops();
    }

    private static void makeAllStops() {
        MarkArenas x = opened(2);
        makeAllHolders();
        due("makeAll: no such holder", madeOf(x, 0, "1;1<2;1"), 1);
        due("makeAll: none is made", madeOf(x, 0, "1<23"), 0);
        due("makeAll: saved all the same", x.count(10), 4);
        due("makeAll: buffer is cleared", x.clearBuffer(), 0);
        due("makeAll: the new one counts", madeOf(x, 0, "1<1"), 1);
        due("makeAll: the next one does not", madeOf(x, 0, "1<3;1"), 0);
        due("makeAll: up to the mark", madeOf(x, 0, "16;16;16;14;1"), 4);
        due("makeAll: full", x.arena(0, 1), 64);
        due("makeAll: no room", madeOf(x, 0, "1"), 0);
        x.undo();
        x.undo();
        due("makeAll: a later smaller one is not tried", madeOf(x, 0, "16;16;16;15;1"), 3);
        makeMany(x, 1, 18, 1);
        due("makeAll: up to the last number", madeOf(x, 1, "1r;1"), 1);
        due("makeAll: 24 objects", x.count(0), 24);
        due("makeAll: no number", madeOf(x, 1, "1<0"), 0);
        due("makeAll: no reference either", x.object(0, 3), NONE);
    }

    private static void makeAllHolders() {
        MarkArenas x = opened(1);
        makeMany(x, 0, 21, 1);
        due("makeAll: a holder of two signs", madeOf(x, 0, "2<19;4<10;3<23"), 3);
        due("makeAll: 19 holds 21", x.object(19, 3), 21);
        due("makeAll: 10 holds 22", x.object(10, 3), 22);
        due("makeAll: 23 holds itself", x.object(23, 3), 23);
        due("makeAll: no 24", x.count(0), 24);
    }

    private static void undo() {
        MarkArenas x = new MarkArenas();
        long[] digests = new long[8];
        for (int i = 0; i < 7; i++) {
            digests[i] = withoutSaved(x);
            x.set(1, (i + 1) % 3);
            due("undo: saved states", x.count(10), i < 6 ? i + 1 : 6);
        }
        for (int left = 5; left >= 0; left--) {
            due("undo()", x.undo(), left);
            due("undo: as before", withoutSaved(x), digests[left + 1]);
        }
        refused("undo() of the seventh", x, STATE, () -> x.undo());
        due("undo: the oldest was dropped", x.setting(1), 1);
        undoBringsAllBack();
    }

    private static void undoBringsAllBack() {
        MarkArenas x = opened(3);
        makeMany(x, 0, 3, 3);
        x.root(1, true);
        x.link(1, 0, 2);
        x.giveBack(0, 1);
        Answer[] calls = {() -> x.open(), () -> x.make(1, 3), () -> x.link(1, 1, 1),
            () -> x.root(2, true), () -> x.pin(1, true), () -> x.giveBack(1, 2),
            () -> x.close(2), () -> x.set(0, 1), () -> x.set(1, 2), () -> madeOf(x, 1, "1r<1;2"),
            () -> x.root(1, true), () -> x.pin(1, false), () -> x.set(0, 0)};
        for (int i = 0; i < calls.length; i++) {
            long before = withoutSaved(x);
            calls[i].get();
            due("undo of call " + i + ": left", x.undo(), 5);
            due("undo of call " + i + ": as before", withoutSaved(x), before);
            x.set(1, (i + 1) % 3);
        }
    }

    private static void object() {
        MarkArenas x = opened(3);
        makeMany(x, 0, 4, 2);
        x.make(1, 7);
        x.root(0, true);
        x.link(0, 0, 1);
        x.link(1, 0, 2);
        x.link(1, 1, 2);
        x.link(2, 1, 0);
        x.link(4, 0, 2);
        x.link(4, 1, 4);
        int[][] wanted = {{0, 0, 2, 1, -1, 1, 0, 1, 1, 0, 1, 0}, {0, 2, 2, 2, 2, 0, 0, 1, 1, 0, 1, 1},
            {0, 4, 2, -1, 0, 0, 0, 1, 1, 0, 3, 2}, {0, 6, 2, -1, -1, 0, 0, 0, 0, 0, 0, -1},
            {1, 0, 7, 2, 4, 0, 0, 0, 0, 0, 1, -1}};
        for (int object = 0; object < 5; object++) {
            for (int what = 0; what < 12; what++) {
                due("object(" + object + ", " + what + ")", x.object(object, what),
                        wanted[object][what]);
            }
        }
        x.root(4, true);
        due("object: the shorter way", x.object(2, 11), 1);
        x.pin(3, true);
        due("object: pinned", x.object(3, 6), 1);
        due("object: pinned, but it does not survive", x.object(3, 8), 0);
        x.giveBack(0, 1);
        x.giveBack(1, 2);
        due("object: laid anew twice", x.object(0, 9), 2);
        due("object: laid anew once", x.object(4, 9), 1);
        refused("object(3, ..) gone", x, INDEX, () -> x.object(3, 0));
        refused("object(24, ..)", x, INDEX, () -> x.object(24, 12));
        refused("object(-1, ..)", x, INDEX, () -> x.object(-1, 0));
        refused("object(.., 12)", x, ARGUMENT, () -> x.object(0, 12));
        refused("object(.., -1)", x, ARGUMENT, () -> x.object(0, -1));
    }

    private static void arena() {
        MarkArenas x = opened(2);
        x.close(0);
        x.open();
        x.make(0, 3);
        x.make(0, 4);
        x.make(0, 6);
        x.root(1, true);
        x.link(1, 0, 2);
        x.pin(0, true);
        int[] wanted = {1, 13, 3, 10, 3, 1, 0, 2};
        for (int what = 0; what < 8; what++) {
            due("arena(0, " + what + ")", x.arena(0, what), wanted[what]);
        }
        x.pin(2, true);
        due("arena: kept", x.arena(0, 6), 1);
        due("arena: pinned", x.arena(0, 5), 2);
        refused("arena(6, ..)", x, INDEX, () -> x.arena(6, 8));
        refused("arena(-1, ..)", x, INDEX, () -> x.arena(-1, 0));
        refused("arena(.., 8)", x, ARGUMENT, () -> x.arena(0, 8));
        refused("arena(.., -1)", x, ARGUMENT, () -> x.arena(0, -1));
    }

    private static void at() {
        MarkArenas x = opened(2);
        x.make(1, 2);
        x.make(1, 3);
        int[] wanted = {0, 0, 1, 1, 1, NONE};
        for (int cell = 0; cell < 6; cell++) {
            due("at(1, " + cell + ")", x.at(1, cell), wanted[cell]);
            due("at(0, " + cell + ")", x.at(0, cell), NONE);
        }
        due("at(.., 63)", x.at(1, 63), NONE);
        due("at of a free arena", x.at(5, 0), NONE);
        x.close(1);
        due("at of a returned arena", x.at(1, 0), NONE);
        refused("at(6, ..)", x, INDEX, () -> x.at(6, 0));
        refused("at(-1, ..)", x, INDEX, () -> x.at(-1, 0));
        refused("at(.., 64)", x, INDEX, () -> x.at(0, 64));
        refused("at(.., -1)", x, INDEX, () -> x.at(0, -1));
    }

    private static void count() {
        MarkArenas x = opened(3);
        makeMany(x, 0, 4, 2);
        makeMany(x, 1, 2, 3);
        x.root(0, true);
        x.root(5, true);
        x.link(0, 0, 1);
        x.link(0, 1, 4);
        x.link(1, 0, 0);
        x.link(4, 0, 4);
        x.link(2, 0, 5);
        int[] before = {6, 4, 3, 2, 5, 2, 6, 0, 0, 0, 6};
        for (int what = 0; what < 11; what++) {
            due("count(" + what + ")", x.count(what), before[what]);
        }
        x.giveBack(0, 2);
        x.giveBack(2, 1);
        int[] after = {4, 4, 1, 2, 4, 0, 6, 4, 2, 2, 6};
        for (int what = 0; what < 11; what++) {
            due("count(" + what + ") after returns", x.count(what), after[what]);
        }
        x.undo();
        due("count: undone", x.count(7), 2);
        refused("count(11)", x, ARGUMENT, () -> x.count(11));
        refused("count(-1)", x, ARGUMENT, () -> x.count(-1));
    }

    private static void whyNot() {
        MarkArenas x = opened(3);
        makeMany(x, 0, 1, 16);
        makeMany(x, 1, 4, 16);
        x.root(0, true);
        x.pin(0, true);
        due("whyNot: the same", x.whyNot(0, 0), 1);
        due("whyNot: the same, and free", x.whyNot(5, 5), 1);
        due("whyNot: a free one", x.whyNot(4, 0), 2);
        due("whyNot: into a free one", x.whyNot(0, 4), 2);
        due("whyNot: kept", x.whyNot(0, 2), 3);
        due("whyNot: kept, and no room", x.whyNot(0, 1), 3);
        x.pin(0, false);
        due("whyNot: no room", x.whyNot(0, 1), 4);
        due("whyNot: it can be", x.whyNot(0, 2), 0);
        due("whyNot: nothing is changed", x.whyNot(0, 2), 0);
        refused("whyNot(6, ..)", x, INDEX, () -> x.whyNot(6, 6));
        refused("whyNot(.., 6)", x, INDEX, () -> x.whyNot(0, 6));
        refused("whyNot(-1, ..)", x, INDEX, () -> x.whyNot(-1, 0));
        refused("whyNot(.., -1)", x, INDEX, () -> x.whyNot(0, -1));
    }

    private static void ifGiven() {
        MarkArenas x = opened(3);
        x.make(0, 3);
        x.make(0, 16);
        x.make(1, 5);
        x.root(1, true);
        due("ifGiven: it would be gone", x.ifGiven(0, 1), NONE);
        due("ifGiven: behind the mark", x.ifGiven(1, 1), 5);
        due("ifGiven: to an empty one", x.ifGiven(1, 2), 0);
        due("ifGiven: to its own", x.ifGiven(1, 0), NONE);
        due("ifGiven: to a free one", x.ifGiven(1, 3), NONE);
        x.root(0, true);
        due("ifGiven: behind the other", x.ifGiven(1, 1), 8);
        makeMany(x, 1, 3, 16);
        due("ifGiven: no room", x.ifGiven(0, 1), NONE);
        x.pin(0, true);
        due("ifGiven: kept", x.ifGiven(1, 2), NONE);
        refused("ifGiven(6, ..)", x, INDEX, () -> x.ifGiven(6, 0));
        refused("ifGiven(-1, ..)", x, INDEX, () -> x.ifGiven(-1, 0));
        refused("ifGiven(.., 6)", x, INDEX, () -> x.ifGiven(0, 6));
        refused("ifGiven(.., -1)", x, INDEX, () -> x.ifGiven(0, -1));
    }

    private static void ifLost() {
        MarkArenas x = opened(2);
        makeMany(x, 0, 6, 1);
        x.root(0, true);
        x.link(0, 0, 1);
        x.link(0, 1, 2);
        x.link(1, 0, 3);
        x.link(2, 0, 3);
        x.link(3, 0, 4);
        x.link(4, 0, 0);
        int[] wanted = {5, 1, 1, 2, 1, 0};
        for (int object = 0; object < 6; object++) {
            due("ifLost(" + object + ")", x.ifLost(object), wanted[object]);
        }
        x.root(3, true);
        due("ifLost of one root of two", x.ifLost(0), 3);
        due("ifLost of the other", x.ifLost(3), 2);
        due("ifLost: nothing is changed", x.count(1), 5);
        refused("ifLost(6)", x, INDEX, () -> x.ifLost(6));
        refused("ifLost(-1)", x, INDEX, () -> x.ifLost(-1));
        refused("ifLost(24)", x, INDEX, () -> x.ifLost(24));
    }

    private static void best() {
        MarkArenas x = new MarkArenas();
        due("best of none", x.best(), NONE);
        x.open();
        due("best of one alone", x.best(), NONE);
        x.open();
        due("best: none dead, the lowest", x.best(), 0);
        x.make(1, 2);
        due("best: the most dead", x.best(), 1);
        x.make(0, 2);
        due("best: of several the lowest", x.best(), 0);
        x.open();
        x.make(2, 9);
        due("best: the last", x.best(), 2);
        x.make(2, 1);
        x.root(3, true);
        x.pin(3, true);
        due("best: not a kept one", x.best(), 0);
        x.root(0, true);
        due("best: living cells do not count", x.best(), 0);
        x.root(1, true);
        x.root(0, false);
        due("best: dead ones do", x.best(), 1);
        due("best: as arena(.., 4)", x.arena(x.best(), 4), 2);
    }

    private static void bestWithoutRoom() {
        MarkArenas x = opened(2);
        makeMany(x, 0, 4, 16);
        makeMany(x, 1, 4, 16);
        for (int object = 0; object < 3; object++) {
            x.root(object, true);
            x.root(object + 4, true);
        }
        due("best: none has room", x.best(), NONE);
        x.open();
        due("best: into a third one", x.best(), 0);
        x.root(4, false);
        due("best: the one with more dead cells", x.best(), 1);
    }

    private static void livingShare() {
        MarkArenas x = new MarkArenas();
        dueShare("livingShare of nothing", x.livingShare(), 1.0);
        x.open();
        dueShare("livingShare of an empty arena", x.livingShare(), 1.0);
        x.make(0, 1);
        dueShare("livingShare of none", x.livingShare(), 0.0);
        x.make(0, 2);
        x.root(0, true);
        dueShare("livingShare of a third", x.livingShare(), 1.0 / 3.0);
        x.open();
        x.make(1, 4);
        x.link(0, 0, 2);
        dueShare("livingShare over all arenas", x.livingShare(), 5.0 / 7.0);
        x.set(0, 1);
        x.link(2, 0, 1);
        x.link(0, 0, NONE);
        dueShare("livingShare by roots alone", x.livingShare(), 1.0 / 7.0);
        x.root(1, true);
        x.root(2, true);
        dueShare("livingShare of all", x.livingShare(), 1.0);
    }

    private static void digest() {
        MarkArenas x = new MarkArenas();
        due("digest of nothing", x.digest(), digestOf(x, ""));
        x.open();
        x.open();
        madeOf(x, 1, "16r;3<0;10<1;2<3;1r");
        due("digest of objects", x.digest(), digestOf(x, ""));
        type(x, "1<~");
        due("digest with a buffer", x.digest(), digestOf(x, "1<~"));
        x.root(0, false);
        x.set(1, 2);
        due("digest with other settings", x.digest(), digestOf(x, "1<~"));
        x.giveBack(1, 0);
        due("digest after a return", x.digest(), digestOf(x, "1<~"));
        due("digest changes nothing", x.digest(), digestOf(x, "1<~"));
        shareBits();
    }

    /** The digest holds the bits of the share: all shares of up to 40 cells. */
    private static void shareBits() {
        for (int handedOut = 1; handedOut <= 40; handedOut++) {
            for (int living = 0; living <= handedOut; living++) {
                MarkArenas x = opened(1);
                int left = handedOut - living;
                makeRoots(x, living);
                for (int part = 0; part < 4 && left > 0; part++) {
                    x.make(0, left < 16 ? left : 16);
                    left -= left < 16 ? left : 16;
                }
                dueShare("livingShare", x.livingShare(), (double) living / (double) handedOut);
                due("digest of " + living + " of " + handedOut, x.digest(), digestOf(x, ""));
            }
        }
    }

    private static void makeRoots(MarkArenas x, int cells) {
        int left = cells;
        while (left > 0) {
            int size = left < 16 ? left : 16;
            x.root(x.make(0, size), true);
            left -= size;
        }
    }

    public static void main(String[] args) {
        newObject();
        open();
        make();
        link();
        root();
        pin();
        giveBack();
        orders();
        orderOfThoseNotMet();
        remembering();
        close();
        settings();
        buffer();
        errors();
        makeAll();
        undo();
        object();
        arena();
        at();
        count();
        whyNot();
        ifGiven();
        ifLost();
        best();
        bestWithoutRoom();
        livingShare();
        digest();
        due("NONE", NONE, -1);
        end("PromiseTests");
    }
}
