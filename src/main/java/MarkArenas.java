/**
 * Arenas that are handed out by moving a mark, whose survivors are carried on when the arena is
 * returned. What each call promises stands in ../shared/DOC.md.
 */
public final class MarkArenas {
    /** There is nothing to return. */
    public static final int NONE = -1;

    private static final int ARENAS = 6;
    private static final int CELLS = 64;
    private static final int OBJECTS = 24;
    private static final int FIELDS = 2;
    private static final int MOST_SIZE = 16;

    private static final int SETTINGS = 2;
    private static final int REMEMBERING = 0;
    private static final int ORDER = 1;
    private static final int BY_NUMBER = 1;
    private static final int AS_MET = 2;

    private static final int OBJECT_PROPERTIES = 12;
    private static final int ARENA_PROPERTIES = 8;
    private static final int COUNTS = 11;

    private static final int CAN_BE_RETURNED = 0;
    private static final int SAME_ARENA = 1;
    private static final int NOT_OPEN = 2;
    private static final int KEPT = 3;
    private static final int NO_ROOM = 4;

    private final State state = new State();
    private final Returning returning = new Returning();
    private final Reach lasting = new Reach();
    private final Text text = new Text();
    private final History history = new History();

    public MarkArenas() {
    }

    // ---- arenas, objects

    public int open() throws IllegalStateException {
        int arena = state.lowestFreeArena();
        if (arena == NONE) {
            throw new IllegalStateException("no arena is free");
        }
        history.save(state);
        state.handOut(arena);
        return arena;
    }

    public int make(int arena, int size)
            throws IndexOutOfBoundsException, IllegalArgumentException, IllegalStateException {
        refuseNoArena(arena);
        if (size < 1 || size > MOST_SIZE) {
            throw new IllegalArgumentException("a size is 1 to 16");
        }
        int number = state.lowestFreeNumber();
        if (!state.isOpen(arena) || !state.hasRoom(arena, size) || number == NONE) {
            throw new IllegalStateException("not open, or without room, or no number is left");
        }
        history.save(state);
        state.add(number, arena, size);
        return number;
    }

    public int link(int object, int field, int to) throws IndexOutOfBoundsException {
        refuseNoObject(object);
        if (field < 0 || field >= FIELDS) {
            throw new IndexOutOfBoundsException("no such field");
        }
        if (to != NONE) {
            refuseNoObject(to);
        }
        history.save(state);
        int previous = state.reference(object, field);
        state.refer(object, field, to);
        return previous;
    }

    public int root(int object, boolean isRoot) throws IndexOutOfBoundsException {
        refuseNoObject(object);
        history.save(state);
        boolean wasRoot = state.isRoot[object];
        state.isRoot[object] = isRoot;
        return oneIf(wasRoot);
    }

    public int pin(int object, boolean isPinned) throws IndexOutOfBoundsException {
        refuseNoObject(object);
        history.save(state);
        state.isPinned[object] = isPinned;
        return state.pinnedIn(state.arenaOf[object]);
    }

    public int giveBack(int arena, int into)
            throws IndexOutOfBoundsException, IllegalArgumentException, IllegalStateException {
        refuseNoArena(arena);
        refuseNoArena(into);
        if (arena == into) {
            throw new IllegalArgumentException("an arena is returned into another one");
        }
        if (returning.reason(state, arena, into) != CAN_BE_RETURNED) {
            throw new IllegalStateException("not open, or kept, or without room");
        }
        history.save(state);
        int survivors = returning.carryOn(state, arena, into);
        state.free(arena);
        return survivors;
    }

    public int close(int arena) throws IndexOutOfBoundsException, IllegalStateException {
        refuseNoArena(arena);
        returning.survey(state, arena);
        if (!state.isOpen(arena) || returning.surviving.met > 0) {
            throw new IllegalStateException("not open, or an object survives");
        }
        history.save(state);
        return state.free(arena);
    }

    public int set(int setting, int value)
            throws IndexOutOfBoundsException, IllegalArgumentException {
        refuseNoSetting(setting);
        int most = setting == ORDER ? AS_MET : 1;
        if (value < 0 || value > most) {
            throw new IllegalArgumentException("the setting has no such value");
        }
        history.save(state);
        int previous = state.settings[setting];
        state.settings[setting] = value;
        return previous;
    }

    // ---- texts

    public int append(int code) throws IllegalArgumentException, IllegalStateException {
        if (code < Text.LOWEST_CODE || code > Text.HIGHEST_CODE) {
            throw new IllegalArgumentException("a code is 33 to 126");
        }
        if (text.isFull()) {
            throw new IllegalStateException("the buffer is full");
        }
        text.add(code);
        return text.length;
    }

    public int clearBuffer() {
        int length = text.length;
        text.empty();
        return length;
    }

    public int firstError() {
        return text.errorPlace();
    }

    public int makeAll(int arena)
            throws IndexOutOfBoundsException, IllegalArgumentException, IllegalStateException {
        refuseNoArena(arena);
        if (!text.isComplete()) {
            throw new IllegalArgumentException("the buffer is not complete objects as a text");
        }
        if (!state.isOpen(arena)) {
            throw new IllegalStateException("not open");
        }
        history.save(state);
        int made = makeParts(arena);
        text.empty();
        return made;
    }

    private int makeParts(int arena) {
        int made = 0;
        int place = 0;
        for (int part = 0; part < Text.MOST && place < text.length; part++) {
            place = text.readPart(place);
            if (!makePart(arena)) {
                return made;
            }
            made++;
        }
        return made;
    }

    private boolean makePart(int arena) {
        int number = state.lowestFreeNumber();
        if (number == NONE || !state.hasRoom(arena, text.partSize)) {
            return false;
        }
        int holder = text.partHolder;
        if (holder != NONE && holder != number && !state.has(holder)) {
            return false;
        }
        state.add(number, arena, text.partSize);
        state.isRoot[number] = text.partIsRoot;
        if (holder != NONE) {
            state.refer(holder, 0, number);
        }
        return true;
    }

    public int undo() throws IllegalStateException {
        if (history.saved == 0) {
            throw new IllegalStateException("there is no saved state");
        }
        history.restore(state);
        return history.saved;
    }

    // ---- looks; nothing is changed

    public int object(int object, int what)
            throws IndexOutOfBoundsException, IllegalArgumentException {
        refuseNoObject(object);
        if (what < 0 || what >= OBJECT_PROPERTIES) {
            throw new IllegalArgumentException("no such property");
        }
        return objectProperty(object, what);
    }

    private int objectProperty(int object, int what) {
        switch (what) {
            case 0: return state.arenaOf[object];
            case 1: return state.address[object];
            case 2: return state.size[object];
            case 3: return state.reference(object, 0);
            case 4: return state.reference(object, 1);
            case 5: return oneIf(state.isRoot[object]);
            case 6: return oneIf(state.isPinned[object]);
            case 8:
                returning.survey(state, state.arenaOf[object]);
                return oneIf(returning.surviving.hasMet(object));
            case 9: return state.laidAnew[object];
            case 10: return state.referencesTo(object);
            default:
                traceRoots(NONE);
                return what == 7 ? oneIf(lasting.hasMet(object)) : lasting.stepsTo(object);
        }
    }

    public int arena(int arena, int what)
            throws IndexOutOfBoundsException, IllegalArgumentException {
        refuseNoArena(arena);
        if (what < 0 || what >= ARENA_PROPERTIES) {
            throw new IllegalArgumentException("no such property");
        }
        return arenaProperty(arena, what);
    }

    private int arenaProperty(int arena, int what) {
        switch (what) {
            case 0: return oneIf(state.isOpen(arena));
            case 1: return state.mark[arena];
            case 2: return state.objectsIn(arena);
            case 3:
                returning.survey(state, arena);
                return returning.survivingCells(state);
            case 4:
                returning.survey(state, arena);
                return returning.deadCells(state, arena);
            case 5: return state.pinnedIn(arena);
            case 6:
                returning.survey(state, arena);
                return oneIf(returning.isKept(state));
            default: return state.opened[arena];
        }
    }

    public int at(int arena, int cell) throws IndexOutOfBoundsException {
        refuseNoArena(arena);
        if (cell < 0 || cell >= CELLS) {
            throw new IndexOutOfBoundsException("no such cell");
        }
        return state.objectAt(arena, cell);
    }

    public int count(int what) throws IllegalArgumentException {
        if (what < 0 || what >= COUNTS) {
            throw new IllegalArgumentException("no such count");
        }
        return number(what);
    }

    private int number(int what) {
        switch (what) {
            case 0: return state.objects();
            case 1:
                traceRoots(NONE);
                return lasting.met;
            case 2: return state.openArenas();
            case 3: return state.roots();
            case 4: return state.references(false);
            case 5: return state.references(true);
            case 6: return state.madeSoFar;
            case 7: return state.laidAnewSoFar;
            case 8: return state.goneSoFar;
            case 9: return state.returnedSoFar;
            default: return history.saved;
        }
    }

    public int setting(int setting) throws IndexOutOfBoundsException {
        refuseNoSetting(setting);
        return state.settings[setting];
    }

    // ---- what would be; nothing is changed

    public int whyNot(int arena, int into) throws IndexOutOfBoundsException {
        refuseNoArena(arena);
        refuseNoArena(into);
        return returning.reason(state, arena, into);
    }

    public int ifGiven(int object, int into) throws IndexOutOfBoundsException {
        refuseNoObject(object);
        refuseNoArena(into);
        return returning.addressIfGiven(state, object, into);
    }

    public int ifLost(int object) throws IndexOutOfBoundsException {
        refuseNoObject(object);
        return lostWith(object);
    }

    // An object that is no root and that nothing refers to holds nothing either: it is left out.
    private int lostWith(int object) {
        traceRoots(NONE);
        int before = lasting.met;
        traceRoots(object);
        return before - lasting.met;
    }

    private void traceRoots(int without) {
        lasting.startAtRoots(state, without);
        lasting.follow(state, NONE, without);
    }

    public int best() {
        int best = NONE;
        int mostDead = NONE;
        for (int arena = 0; arena < ARENAS; arena++) {
            for (int into = 0; into < ARENAS; into++) {
                if (returning.reason(state, arena, into) == CAN_BE_RETURNED) {
                    int dead = returning.deadCells(state, arena);
                    best = dead > mostDead ? arena : best;
                    mostDead = dead > mostDead ? dead : mostDead;
                }
            }
        }
        return best;
    }

    public double livingShare() {
        int handedOut = 0;
        for (int arena = 0; arena < ARENAS; arena++) {
            handedOut += state.mark[arena];
        }
        if (handedOut <= 0) {
            return 1.0;
        }
        traceRoots(NONE);
        return (double) lasting.cells(state) / (double) handedOut;
    }

    public long digest() {
        long hash = 2741L;
        for (int what = 0; what < COUNTS; what++) {
            hash = 31L * hash + number(what);
        }
        for (int setting = 0; setting < SETTINGS; setting++) {
            hash = 31L * hash + state.settings[setting];
        }
        for (int object = 0; object < OBJECTS; object++) {
            if (state.has(object)) {
                hash = withObject(hash, object);
            }
        }
        for (int arena = 0; arena < ARENAS; arena++) {
            hash = withArena(hash, arena);
        }
        hash = 31L * hash + best();
        hash = 31L * hash + bitsOf(livingShare());
        return text.withCodes(31L * hash + text.length);
    }

    private long withObject(long before, int object) {
        long hash = 31L * before + object;
        for (int what = 0; what < OBJECT_PROPERTIES; what++) {
            hash = 31L * hash + objectProperty(object, what);
        }
        hash = 31L * hash + returning.addressIfGiven(state, object, 0);
        return 31L * hash + lostWith(object);
    }

    private long withArena(long before, int arena) {
        long hash = before;
        for (int what = 0; what < ARENA_PROPERTIES; what++) {
            hash = 31L * hash + arenaProperty(arena, what);
        }
        return 31L * hash + returning.reason(state, arena, 1);
    }

    // Double.doubleToLongBits is outside LANGUAGE.md; each step here is exact for a share of 0 to 1.
    private static long bitsOf(double share) {
        if (share <= 0.0) {
            return 0L;
        }
        double scaled = share;
        long exponent = 1023L;
        for (int step = 1; step < 1023 && scaled < 1.0; step++) {
            scaled = scaled * 2.0;
            exponent--;
        }
        return (exponent << 52) + (long) ((scaled - 1.0) * 4503599627370496.0);
    }

    private static int oneIf(boolean holds) {
        return holds ? 1 : 0;
    }

    private static boolean isArena(int arena) {
        return arena >= 0 && arena < ARENAS;
    }

    private static boolean isNumber(int object) {
        return object >= 0 && object < OBJECTS;
    }

    private static void refuseNoArena(int arena) {
        if (!isArena(arena)) {
            throw new IndexOutOfBoundsException("no such arena");
        }
    }

    private void refuseNoObject(int object) {
        if (!state.has(object)) {
            throw new IndexOutOfBoundsException("no such object");
        }
    }

    private static void refuseNoSetting(int setting) {
        if (setting < 0 || setting >= SETTINGS) {
            throw new IndexOutOfBoundsException("no such setting");
        }
    }

    /** All that undo brings back: the arenas, the objects, the settings, what is counted so far. */
    private static final class State {
        final boolean[] isUsed = new boolean[OBJECTS];
        final int[] arenaOf = new int[OBJECTS];
        final int[] address = new int[OBJECTS];
        final int[] size = new int[OBJECTS];
        final int[] fields = new int[OBJECTS * FIELDS];
        final boolean[] isRoot = new boolean[OBJECTS];
        final boolean[] isPinned = new boolean[OBJECTS];
        final int[] laidAnew = new int[OBJECTS];
        final boolean[] isHandedOut = new boolean[ARENAS];
        final int[] mark = new int[ARENAS];
        final int[] opened = new int[ARENAS];
        final int[] settings = new int[SETTINGS];
        int madeSoFar;
        int laidAnewSoFar;
        int goneSoFar;
        int returnedSoFar;

        State() {
            for (int place = 0; place < OBJECTS * FIELDS; place++) {
                fields[place] = NONE;
            }
        }

        // Rule 4 of LANGUAGE.md names copies of rows of numbers: the rows of booleans go one by one.
        void copyFrom(State other) {
            for (int object = 0; object < OBJECTS; object++) {
                isUsed[object] = other.isUsed[object];
                isRoot[object] = other.isRoot[object];
                isPinned[object] = other.isPinned[object];
            }
            for (int arena = 0; arena < ARENAS; arena++) {
                isHandedOut[arena] = other.isHandedOut[arena];
            }
            System.arraycopy(other.arenaOf, 0, arenaOf, 0, OBJECTS);
            System.arraycopy(other.address, 0, address, 0, OBJECTS);
            System.arraycopy(other.size, 0, size, 0, OBJECTS);
            System.arraycopy(other.fields, 0, fields, 0, OBJECTS * FIELDS);
            System.arraycopy(other.laidAnew, 0, laidAnew, 0, OBJECTS);
            System.arraycopy(other.mark, 0, mark, 0, ARENAS);
            System.arraycopy(other.opened, 0, opened, 0, ARENAS);
            System.arraycopy(other.settings, 0, settings, 0, SETTINGS);
            madeSoFar = other.madeSoFar;
            laidAnewSoFar = other.laidAnewSoFar;
            goneSoFar = other.goneSoFar;
            returnedSoFar = other.returnedSoFar;
        }

        boolean has(int object) {
            return object >= 0 && object < OBJECTS && isUsed[object];
        }

        boolean isIn(int object, int arena) {
            return object >= 0 && object < OBJECTS && isUsed[object] && arenaOf[object] == arena;
        }

        boolean isOpen(int arena) {
            return isArena(arena) && isHandedOut[arena];
        }

        boolean hasRoom(int arena, int cells) {
            return isArena(arena) && cells <= CELLS - mark[arena];
        }

        int reference(int object, int field) {
            if (object < 0 || object >= OBJECTS || field < 0 || field >= FIELDS) {
                return NONE;
            }
            return fields[object * FIELDS + field];
        }

        void refer(int object, int field, int to) {
            if (isNumber(object) && field >= 0 && field < FIELDS) {
                fields[object * FIELDS + field] = to;
            }
        }

        int lowestFreeArena() {
            for (int arena = 0; arena < ARENAS; arena++) {
                if (!isHandedOut[arena]) {
                    return arena;
                }
            }
            return NONE;
        }

        int lowestFreeNumber() {
            for (int object = 0; object < OBJECTS; object++) {
                if (!isUsed[object]) {
                    return object;
                }
            }
            return NONE;
        }

        void handOut(int arena) {
            if (isArena(arena)) {
                isHandedOut[arena] = true;
                opened[arena]++;
            }
        }

        void add(int object, int arena, int cells) {
            if (!isNumber(object) || !isArena(arena)) {
                return;
            }
            isUsed[object] = true;
            arenaOf[object] = arena;
            address[object] = mark[arena];
            size[object] = cells;
            mark[arena] += cells;
            madeSoFar++;
        }

        void layAnew(int object, int arena, int newAddress) {
            if (!isNumber(object) || !isArena(arena)) {
                return;
            }
            arenaOf[object] = arena;
            address[object] = newAddress;
            laidAnew[object]++;
            mark[arena] += size[object];
            laidAnewSoFar++;
        }

        /** Frees an arena, with all objects that are still in it, and tells how many these were. */
        int free(int arena) {
            int gone = 0;
            for (int object = 0; object < OBJECTS; object++) {
                if (isIn(object, arena)) {
                    drop(object);
                    gone++;
                }
            }
            if (isArena(arena)) {
                isHandedOut[arena] = false;
                mark[arena] = 0;
            }
            goneSoFar += gone;
            returnedSoFar++;
            return gone;
        }

        // What is gone leaves nothing behind: a later object with its number begins anew.
        private void drop(int object) {
            if (!isNumber(object)) {
                return;
            }
            isUsed[object] = false;
            isRoot[object] = false;
            isPinned[object] = false;
            laidAnew[object] = 0;
            for (int holder = 0; holder < OBJECTS; holder++) {
                for (int field = 0; field < FIELDS; field++) {
                    if (holder == object || reference(holder, field) == object) {
                        refer(holder, field, NONE);
                    }
                }
            }
        }

        int objectAt(int arena, int cell) {
            for (int object = 0; object < OBJECTS; object++) {
                if (isIn(object, arena) && cell >= address[object]
                        && cell < address[object] + size[object]) {
                    return object;
                }
            }
            return NONE;
        }

        int objects() {
            int number = 0;
            for (int object = 0; object < OBJECTS; object++) {
                number += oneIf(isUsed[object]);
            }
            return number;
        }

        int objectsIn(int arena) {
            int number = 0;
            for (int object = 0; object < OBJECTS; object++) {
                number += oneIf(isIn(object, arena));
            }
            return number;
        }

        int pinnedIn(int arena) {
            int number = 0;
            for (int object = 0; object < OBJECTS; object++) {
                number += oneIf(isIn(object, arena) && isPinned[object]);
            }
            return number;
        }

        int roots() {
            int number = 0;
            for (int object = 0; object < OBJECTS; object++) {
                number += oneIf(isRoot[object]);
            }
            return number;
        }

        int openArenas() {
            int number = 0;
            for (int arena = 0; arena < ARENAS; arena++) {
                number += oneIf(isHandedOut[arena]);
            }
            return number;
        }

        int references(boolean acrossArenasAlone) {
            int number = 0;
            for (int object = 0; object < OBJECTS; object++) {
                for (int field = 0; field < FIELDS; field++) {
                    int to = reference(object, field);
                    if (has(to) && (!acrossArenasAlone || arenaOf[to] != arenaOf[object])) {
                        number++;
                    }
                }
            }
            return number;
        }

        int referencesTo(int object) {
            int number = 0;
            for (int holder = 0; holder < OBJECTS; holder++) {
                for (int field = 0; field < FIELDS; field++) {
                    number += oneIf(reference(holder, field) == object);
                }
            }
            return number;
        }
    }

    /** The objects that are met when references are followed from some first ones on. */
    private static final class Reach {
        private final int[] order = new int[OBJECTS];
        private final int[] place = new int[OBJECTS];
        private final int[] steps = new int[OBJECTS];
        int met;

        void forget() {
            met = 0;
            for (int object = 0; object < OBJECTS; object++) {
                place[object] = NONE;
                steps[object] = NONE;
            }
        }

        boolean hasMet(int object) {
            return object >= 0 && object < OBJECTS && place[object] != NONE;
        }

        int placeOf(int object) {
            return object >= 0 && object < OBJECTS ? place[object] : NONE;
        }

        int stepsTo(int object) {
            return object >= 0 && object < OBJECTS ? steps[object] : NONE;
        }

        void meet(int object, int stepsFromFirst) {
            if (object < 0 || object >= OBJECTS || met < 0 || met >= OBJECTS) {
                return;
            }
            if (place[object] == NONE) {
                order[met] = object;
                place[object] = met;
                steps[object] = stepsFromFirst;
                met++;
            }
        }

        /** Meets the roots alone; without: an object that is passed over, or NONE. */
        void startAtRoots(State state, int without) {
            forget();
            for (int object = 0; object < OBJECTS; object++) {
                if (object != without && state.has(object) && state.isRoot[object]) {
                    meet(object, 0);
                }
            }
        }

        /** Meets all that those met so far lead to; inArena: the one arena to stay in, or NONE. */
        void follow(State state, int inArena, int without) {
            for (int next = 0; next < OBJECTS && next < met; next++) {
                int holder = order[next];
                int stepsThere = stepsTo(holder) + 1;
                for (int field = 0; field < FIELDS; field++) {
                    int to = state.reference(holder, field);
                    if (to != without && (inArena == NONE || state.isIn(to, inArena))) {
                        meet(to, stepsThere);
                    }
                }
            }
        }

        int cells(State state) {
            int cells = 0;
            for (int object = 0; object < OBJECTS; object++) {
                if (hasMet(object)) {
                    cells += state.size[object];
                }
            }
            return cells;
        }
    }

    /** Who survives the return of an arena, whether it can be returned, and where they are laid. */
    private static final class Returning {
        private final Reach living = new Reach();
        final Reach surviving = new Reach();
        private final int[] landings = new int[OBJECTS];

        /** Finds the survivors of an arena; what is asked without an arena's number is of these. */
        void survey(State state, int arena) {
            living.startAtRoots(state, NONE);
            living.follow(state, NONE, NONE);
            surviving.forget();
            for (int object = 0; object < OBJECTS; object++) {
                if (state.isIn(object, arena) && living.hasMet(object)) {
                    surviving.meet(object, 0);
                }
            }
            if (state.settings[REMEMBERING] == 1) {
                meetRemembered(state, arena);
            }
            surviving.follow(state, arena, NONE);
        }

        private void meetRemembered(State state, int arena) {
            for (int holder = 0; holder < OBJECTS; holder++) {
                for (int field = 0; field < FIELDS && !state.isIn(holder, arena); field++) {
                    int to = state.reference(holder, field);
                    if (state.isIn(to, arena)) {
                        surviving.meet(to, 0);
                    }
                }
            }
        }

        int survivingCells(State state) {
            return surviving.cells(state);
        }

        int deadCells(State state, int arena) {
            return isArena(arena) ? state.mark[arena] - surviving.cells(state) : 0;
        }

        boolean isKept(State state) {
            for (int object = 0; object < OBJECTS; object++) {
                if (surviving.hasMet(object) && state.isPinned[object]) {
                    return true;
                }
            }
            return false;
        }

        int reason(State state, int arena, int into) {
            if (arena == into) {
                return SAME_ARENA;
            }
            if (!state.isOpen(arena) || !state.isOpen(into)) {
                return NOT_OPEN;
            }
            survey(state, arena);
            if (isKept(state)) {
                return KEPT;
            }
            return state.hasRoom(into, surviving.cells(state)) ? CAN_BE_RETURNED : NO_ROOM;
        }

        int addressIfGiven(State state, int object, int into) {
            int arena = state.has(object) ? state.arenaOf[object] : NONE;
            if (reason(state, arena, into) != CAN_BE_RETURNED || !surviving.hasMet(object)) {
                return NONE;
            }
            return landing(state, object, into);
        }

        private int landing(State state, int object, int into) {
            int address = isArena(into) ? state.mark[into] : 0;
            int ownRank = rank(state, object);
            for (int other = 0; other < OBJECTS; other++) {
                if (surviving.hasMet(other) && rank(state, other) < ownRank) {
                    address += state.size[other];
                }
            }
            return address;
        }

        // No two survivors of an arena have the same rank: the lower one is laid first.
        private int rank(State state, int object) {
            int order = state.settings[ORDER];
            if (order == BY_NUMBER || !isNumber(object)) {
                return object;
            }
            if (order != AS_MET) {
                return state.address[object];
            }
            return living.hasMet(object) ? living.placeOf(object) : OBJECTS + state.address[object];
        }

        /** Lays the survivors of an arena into another one, and tells how many these are. */
        int carryOn(State state, int arena, int into) {
            survey(state, arena);
            // The ranks come from the old addresses: all landings are found before one is used.
            for (int object = 0; object < OBJECTS; object++) {
                landings[object] = surviving.hasMet(object) ? landing(state, object, into) : NONE;
            }
            for (int object = 0; object < OBJECTS; object++) {
                if (surviving.hasMet(object)) {
                    state.layAnew(object, into, landings[object]);
                }
            }
            return surviving.met;
        }
    }

    /** The buffer, and objects as a text in it. */
    private static final class Text {
        static final int MOST = 60;
        static final int LOWEST_CODE = 33;
        static final int HIGHEST_CODE = 126;

        private static final int WRONG = -1;
        private static final int AT_SIZE = 0;
        private static final int SIZE_ONE = 1;
        private static final int SIZE_WHOLE = 2;
        private static final int BEHIND_R = 3;
        private static final int AT_HOLDER = 4;
        private static final int HOLDER_ONE = 5;
        private static final int HOLDER_TWO = 6;
        private static final int HOLDER_WHOLE = 7;

        private final int[] codes = new int[MOST];
        int length;
        int partSize;
        boolean partIsRoot;
        int partHolder;

        boolean isFull() {
            return length >= MOST;
        }

        void add(int code) {
            if (length >= 0 && length < MOST) {
                codes[length] = code;
                length++;
            }
        }

        void empty() {
            length = 0;
        }

        int errorPlace() {
            int stage = AT_SIZE;
            for (int place = 0; place < MOST && place < length; place++) {
                stage = stageAfter(stage, codes[place]);
                if (stage == WRONG) {
                    return place;
                }
            }
            return length;
        }

        boolean isComplete() {
            int stage = AT_SIZE;
            for (int place = 0; place < MOST && place < length; place++) {
                stage = stageAfter(stage, codes[place]);
            }
            return stage != WRONG && stage != AT_SIZE && stage != AT_HOLDER;
        }

        private static int stageAfter(int stage, int code) {
            switch (stage) {
                case AT_SIZE:
                    return code == '1' ? SIZE_ONE : isDigit(code, '2', '9') ? SIZE_WHOLE : WRONG;
                case SIZE_ONE:
                    return isDigit(code, '0', '6') ? SIZE_WHOLE : stageBehindSize(code);
                case SIZE_WHOLE:
                    return stageBehindSize(code);
                case BEHIND_R:
                    return code == '<' ? AT_HOLDER : stageBehindPart(code);
                case AT_HOLDER:
                    return stageInHolder(code);
                case HOLDER_ONE:
                    return isDigit(code, '0', '9') ? HOLDER_WHOLE : stageBehindPart(code);
                case HOLDER_TWO:
                    return isDigit(code, '0', '3') ? HOLDER_WHOLE : stageBehindPart(code);
                case HOLDER_WHOLE:
                    return stageBehindPart(code);
                default:
                    return WRONG;
            }
        }

        private static int stageBehindSize(int code) {
            if (code == 'r') {
                return BEHIND_R;
            }
            return code == '<' ? AT_HOLDER : stageBehindPart(code);
        }

        private static int stageInHolder(int code) {
            if (code == '1') {
                return HOLDER_ONE;
            }
            if (code == '2') {
                return HOLDER_TWO;
            }
            return isDigit(code, '0', '9') ? HOLDER_WHOLE : WRONG;
        }

        private static int stageBehindPart(int code) {
            return code == ';' ? AT_SIZE : WRONG;
        }

        private static boolean isDigit(int code, int lowest, int highest) {
            return code >= lowest && code <= highest;
        }

        /** Reads the part that begins there, in a complete text, and tells where the next begins. */
        int readPart(int from) {
            partSize = 0;
            partIsRoot = false;
            partHolder = NONE;
            for (int place = from; place >= 0 && place < MOST && place < length; place++) {
                int code = codes[place];
                if (code == ';') {
                    return place + 1;
                }
                if (code == 'r') {
                    partIsRoot = true;
                } else if (code == '<') {
                    partHolder = 0;
                } else if (partHolder == NONE) {
                    partSize = partSize * 10 + code - '0';
                } else {
                    partHolder = partHolder * 10 + code - '0';
                }
            }
            return length;
        }

        long withCodes(long before) {
            long hash = before;
            for (int place = 0; place < MOST && place < length; place++) {
                hash = 31L * hash + codes[place];
            }
            return hash;
        }
    }

    /** The saved states; the place of the next one is, when all are full, that of the oldest. */
    private static final class History {
        private static final int MOST = 6;

        private final State[] states = new State[MOST];
        private int next;
        int saved;

        History() {
            for (int place = 0; place < MOST; place++) {
                states[place] = new State();
            }
        }

        void save(State state) {
            if (next < 0 || next >= MOST || states[next] == null) {
                return;
            }
            states[next].copyFrom(state);
            next = next == MOST - 1 ? 0 : next + 1;
            saved = saved < MOST ? saved + 1 : MOST;
        }

        void restore(State state) {
            int latest = next == 0 ? MOST - 1 : next - 1;
            if (saved <= 0 || latest < 0 || latest >= MOST || states[latest] == null) {
                return;
            }
            state.copyFrom(states[latest]);
            next = latest;
            saved--;
        }
    }
}
