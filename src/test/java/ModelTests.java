import java.util.ArrayDeque;
import java.util.ArrayList;
import java.util.Comparator;
import java.util.HashMap;
import java.util.HashSet;
import java.util.List;
import java.util.Map;
import java.util.Set;
import java.util.TreeMap;
import java.util.regex.Pattern;

/**
 * Long runs of calls, each compared with a model that is written otherwise: objects that refer to
 * each other, fixed points for what lives, a pattern for the texts, whole copies for undo.
 */
public final class ModelTests {
    private static final int RUNS = 700;
    private static final int CALLS = 500;

    private static final class Thing {
        int number;
        int size;
        int arena;
        int address;
        int[] field = {-1, -1};
        boolean root;
        boolean pinned;
        int laid;

        Thing copy() {
            Thing t = new Thing();
            t.number = number;
            t.size = size;
            t.arena = arena;
            t.address = address;
            t.field = field.clone();
            t.root = root;
            t.pinned = pinned;
            t.laid = laid;
            return t;
        }
    }

    private static final class World {
        TreeMap<Integer, Thing> things = new TreeMap<>();
        boolean[] open = new boolean[6];
        int[] opened = new int[6];
        int[] setting = new int[2];
        int made;
        int laid;
        int gone;
        int returned;

        World copy() {
            World w = new World();
            for (Thing t : things.values()) {
                w.things.put(t.number, t.copy());
            }
            w.open = open.clone();
            w.opened = opened.clone();
            w.setting = setting.clone();
            w.made = made;
            w.laid = laid;
            w.gone = gone;
            w.returned = returned;
            return w;
        }
    }

    private static final class Refused extends RuntimeException {
        private static final long serialVersionUID = 1L;

        Refused(String name) {
            super(name);
        }
    }

    private static final class Model {
        private static final Pattern TEXT = Pattern.compile(
                "(1[0-6]|[1-9])r?(<(1[0-9]|2[0-3]|[0-9]))?(;(1[0-6]|[1-9])r?(<(1[0-9]|2[0-3]|[0-9]))?)*");

        World w = new World();
        ArrayDeque<World> saved = new ArrayDeque<>();
        String buffer = "";

        private static void index(boolean holds) {
            if (!holds) {
                throw new Refused("IndexOutOfBoundsException");
            }
        }

        private static void argument(boolean holds) {
            if (!holds) {
                throw new Refused("IllegalArgumentException");
            }
        }

        private static void state(boolean holds) {
            if (!holds) {
                throw new Refused("IllegalStateException");
            }
        }

        private void save() {
            saved.addLast(w.copy());
            if (saved.size() > 6) {
                saved.removeFirst();
            }
        }

        private static boolean in(int value, int least, int most) {
            return value >= least && value <= most;
        }

        private List<Thing> inArena(int arena) {
            List<Thing> found = new ArrayList<>();
            for (Thing t : w.things.values()) {
                if (t.arena == arena) {
                    found.add(t);
                }
            }
            return found;
        }

        private static int cells(Iterable<Thing> things) {
            int sum = 0;
            for (Thing t : things) {
                sum += t.size;
            }
            return sum;
        }

        private int mark(int arena) {
            return cells(inArena(arena));
        }

        private Map<Integer, Integer> distances(int without) {
            Map<Integer, Integer> far = new HashMap<>();
            for (Thing t : w.things.values()) {
                if (t.root && t.number != without) {
                    far.put(t.number, 0);
                }
            }
            boolean changed = true;
            while (changed) {
                changed = false;
                for (Thing t : w.things.values()) {
                    for (int to : t.field) {
                        if (to != -1 && to != without && far.containsKey(t.number)) {
                            int way = far.get(t.number) + 1;
                            if (!far.containsKey(to) || far.get(to) > way) {
                                far.put(to, way);
                                changed = true;
                            }
                        }
                    }
                }
            }
            return far;
        }

        private Set<Integer> survivors(int arena) {
            Set<Integer> found = new HashSet<>();
            Set<Integer> living = distances(-1).keySet();
            for (Thing t : inArena(arena)) {
                if (living.contains(t.number)) {
                    found.add(t.number);
                }
            }
            boolean changed = w.setting[0] == 1;
            while (changed) {
                changed = false;
                for (Thing t : w.things.values()) {
                    for (int to : t.field) {
                        if (to != -1 && w.things.get(to).arena == arena && !found.contains(to)
                                && (t.arena != arena || found.contains(t.number))) {
                            found.add(to);
                            changed = true;
                        }
                    }
                }
            }
            return found;
        }

        private List<Thing> ordered(int arena) {
            Set<Integer> who = survivors(arena);
            List<Thing> left = new ArrayList<>();
            for (int number : who) {
                left.add(w.things.get(number));
            }
            left.sort(Comparator.comparingInt(t -> w.setting[1] == 1 ? t.number : t.address));
            if (w.setting[1] != 2) {
                return left;
            }
            List<Integer> met = new ArrayList<>();
            for (Thing t : w.things.values()) {
                if (t.root) {
                    met.add(t.number);
                }
            }
            for (int i = 0; i < met.size(); i++) {
                for (int to : w.things.get(met.get(i)).field) {
                    if (to != -1 && !met.contains(to)) {
                        met.add(to);
                    }
                }
            }
            List<Thing> result = new ArrayList<>();
            for (int number : met) {
                if (who.contains(number)) {
                    result.add(w.things.get(number));
                }
            }
            for (Thing t : left) {
                if (!result.contains(t)) {
                    result.add(t);
                }
            }
            return result;
        }

        private boolean kept(int arena) {
            for (int number : survivors(arena)) {
                if (w.things.get(number).pinned) {
                    return true;
                }
            }
            return false;
        }

        private int survivingCells(int arena) {
            return cells(ordered(arena));
        }

        private int dead(int arena) {
            return mark(arena) - survivingCells(arena);
        }

        private int lowest() {
            int number = 0;
            while (w.things.containsKey(number)) {
                number++;
            }
            return number;
        }

        private Thing add(int arena, int size) {
            Thing t = new Thing();
            t.number = lowest();
            t.size = size;
            t.arena = arena;
            t.address = mark(arena);
            w.things.put(t.number, t);
            w.made++;
            return t;
        }

        private int remove(int arena) {
            Set<Integer> away = new HashSet<>();
            for (Thing t : inArena(arena)) {
                away.add(t.number);
            }
            w.things.keySet().removeAll(away);
            for (Thing t : w.things.values()) {
                for (int f = 0; f < 2; f++) {
                    if (away.contains(t.field[f])) {
                        t.field[f] = -1;
                    }
                }
            }
            w.open[arena] = false;
            w.gone += away.size();
            w.returned++;
            return away.size();
        }

        private int why(int arena, int into) {
            if (arena == into) {
                return 1;
            }
            if (!w.open[arena] || !w.open[into]) {
                return 2;
            }
            if (kept(arena)) {
                return 3;
            }
            return mark(into) + survivingCells(arena) > 64 ? 4 : 0;
        }

        private static boolean complete(String text) {
            return TEXT.matcher(text).matches();
        }

        long call(int which, int a, int b, int c) {
            switch (which) {
                case 0: return open();
                case 1: return make(a, b);
                case 2: return link(a, b, c);
                case 3: return root(a, b == 1);
                case 4: return pin(a, b == 1);
                case 5: return giveBack(a, b);
                case 6: return close(a);
                case 7: return set(a, b);
                case 8: return append(a);
                case 9: return clearBuffer();
                case 10: return firstError();
                case 11: return makeAll(a);
                case 12: return undo();
                case 13: return object(a, b);
                case 14: return arena(a, b);
                case 15: return at(a, b);
                case 16: return count(a);
                case 17: return setting(a);
                case 18: return whyNot(a, b);
                case 19: return ifGiven(a, b);
                case 20: return ifLost(a);
                case 21: return best();
                case 22: return Double.doubleToRawLongBits(share());
                default: return digest();
            }
        }

        private int open() {
            for (int arena = 0; arena < 6; arena++) {
                if (!w.open[arena]) {
                    save();
                    w.open[arena] = true;
                    w.opened[arena]++;
                    return arena;
                }
            }
            throw new Refused("IllegalStateException");
        }

        private int make(int arena, int size) {
            index(in(arena, 0, 5));
            argument(in(size, 1, 16));
            state(w.open[arena] && mark(arena) + size <= 64 && w.things.size() < 24);
            save();
            return add(arena, size).number;
        }

        private int link(int object, int field, int to) {
            index(w.things.containsKey(object) && in(field, 0, 1));
            index(to == -1 || w.things.containsKey(to));
            save();
            int before = w.things.get(object).field[field];
            w.things.get(object).field[field] = to;
            return before;
        }

        private int root(int object, boolean is) {
            index(w.things.containsKey(object));
            save();
            int before = w.things.get(object).root ? 1 : 0;
            w.things.get(object).root = is;
            return before;
        }

        private int pin(int object, boolean is) {
            index(w.things.containsKey(object));
            save();
            w.things.get(object).pinned = is;
            return arena(w.things.get(object).arena, 5);
        }

        private int giveBack(int arena, int into) {
            index(in(arena, 0, 5) && in(into, 0, 5));
            argument(arena != into);
            state(why(arena, into) == 0);
            save();
            List<Thing> order = ordered(arena);
            int address = mark(into);
            for (Thing t : order) {
                t.address = address;
                address += t.size;
                t.arena = into;
                t.laid++;
                w.laid++;
            }
            remove(arena);
            return order.size();
        }

        private int close(int arena) {
            index(in(arena, 0, 5));
            state(w.open[arena] && survivors(arena).isEmpty());
            save();
            return remove(arena);
        }

        private int set(int setting, int value) {
            index(in(setting, 0, 1));
            argument(in(value, 0, setting + 1));
            save();
            int before = w.setting[setting];
            w.setting[setting] = value;
            return before;
        }

        private int append(int code) {
            argument(in(code, 33, 126));
            state(buffer.length() < 60);
            buffer += (char) code;
            return buffer.length();
        }

        private int clearBuffer() {
            int length = buffer.length();
            buffer = "";
            return length;
        }

        private int firstError() {
            for (int i = 0; i < buffer.length(); i++) {
                String begin = buffer.substring(0, i + 1);
                if (!complete(begin) && !complete(begin + "1")) {
                    return i;
                }
            }
            return buffer.length();
        }

        private int makeAll(int arena) {
            index(in(arena, 0, 5));
            argument(complete(buffer));
            state(w.open[arena]);
            save();
            String[] parts = buffer.split(";");
            buffer = "";
            for (int made = 0; made < parts.length; made++) {
                String[] sides = parts[made].split("<");
                boolean isRoot = sides[0].endsWith("r");
                int size = Integer.parseInt(sides[0].replace("r", ""));
                int holder = sides.length == 1 ? -1 : Integer.parseInt(sides[1]);
                boolean told = holder == -1 || holder == lowest() || w.things.containsKey(holder);
                if (!told || w.things.size() == 24 || mark(arena) + size > 64) {
                    return made;
                }
                Thing t = add(arena, size);
                t.root = isRoot;
                if (holder != -1) {
                    w.things.get(holder).field[0] = t.number;
                }
            }
            return parts.length;
        }

        private int undo() {
            state(!saved.isEmpty());
            w = saved.removeLast();
            return saved.size();
        }

        private int object(int object, int what) {
            index(w.things.containsKey(object));
            argument(in(what, 0, 11));
            Thing t = w.things.get(object);
            int[] plain = {t.arena, t.address, t.size, t.field[0], t.field[1], t.root ? 1 : 0,
                t.pinned ? 1 : 0};
            if (what < 7) {
                return plain[what];
            }
            if (what == 7) {
                return distances(-1).containsKey(object) ? 1 : 0;
            }
            if (what == 8) {
                return survivors(t.arena).contains(object) ? 1 : 0;
            }
            if (what == 9) {
                return t.laid;
            }
            if (what == 11) {
                return distances(-1).getOrDefault(object, -1);
            }
            int references = 0;
            for (Thing holder : w.things.values()) {
                for (int to : holder.field) {
                    references += to == object ? 1 : 0;
                }
            }
            return references;
        }

        private int arena(int arena, int what) {
            index(in(arena, 0, 5));
            argument(in(what, 0, 7));
            int pinned = 0;
            for (Thing t : inArena(arena)) {
                pinned += t.pinned ? 1 : 0;
            }
            switch (what) {
                case 0: return w.open[arena] ? 1 : 0;
                case 1: return mark(arena);
                case 2: return inArena(arena).size();
                case 3: return survivingCells(arena);
                case 4: return dead(arena);
                case 5: return pinned;
                case 6: return kept(arena) ? 1 : 0;
                default: return w.opened[arena];
            }
        }

        private int at(int arena, int cell) {
            index(in(arena, 0, 5) && in(cell, 0, 63));
            for (Thing t : inArena(arena)) {
                if (in(cell, t.address, t.address + t.size - 1)) {
                    return t.number;
                }
            }
            return -1;
        }

        private int count(int what) {
            argument(in(what, 0, 10));
            int open = 0;
            for (boolean is : w.open) {
                open += is ? 1 : 0;
            }
            int roots = 0;
            int references = 0;
            int across = 0;
            for (Thing t : w.things.values()) {
                roots += t.root ? 1 : 0;
                for (int to : t.field) {
                    references += to != -1 ? 1 : 0;
                    across += to != -1 && w.things.get(to).arena != t.arena ? 1 : 0;
                }
            }
            return new int[] {w.things.size(), distances(-1).size(), open, roots, references, across,
                w.made, w.laid, w.gone, w.returned, saved.size()}[what];
        }

        private int setting(int setting) {
            index(in(setting, 0, 1));
            return w.setting[setting];
        }

        private int whyNot(int arena, int into) {
            index(in(arena, 0, 5) && in(into, 0, 5));
            return why(arena, into);
        }

        private int ifGiven(int object, int into) {
            index(w.things.containsKey(object) && in(into, 0, 5));
            Thing t = w.things.get(object);
            if (why(t.arena, into) != 0) {
                return -1;
            }
            int address = mark(into);
            for (Thing survivor : ordered(t.arena)) {
                if (survivor == t) {
                    return address;
                }
                address += survivor.size;
            }
            return -1;
        }

        private int ifLost(int object) {
            index(w.things.containsKey(object));
            Set<Integer> lost = new HashSet<>(distances(-1).keySet());
            lost.removeAll(distances(object).keySet());
            return lost.size();
        }

        private int best() {
            int best = -1;
            for (int arena = 5; arena >= 0; arena--) {
                boolean can = false;
                for (int into = 0; into < 6; into++) {
                    can |= why(arena, into) == 0;
                }
                if (can && (best == -1 || dead(arena) >= dead(best))) {
                    best = arena;
                }
            }
            return best;
        }

        private double share() {
            int living = 0;
            for (int number : distances(-1).keySet()) {
                living += w.things.get(number).size;
            }
            int all = cells(w.things.values());
            return all == 0 ? 1.0 : (double) living / all;
        }

        private long digest() {
            List<Long> values = new ArrayList<>();
            for (int what = 0; what < 11; what++) {
                values.add((long) count(what));
            }
            values.add((long) w.setting[0]);
            values.add((long) w.setting[1]);
            for (int number : w.things.keySet()) {
                values.add((long) number);
                for (int what = 0; what < 12; what++) {
                    values.add((long) object(number, what));
                }
                values.add((long) ifGiven(number, 0));
                values.add((long) ifLost(number));
            }
            for (int arena = 0; arena < 6; arena++) {
                for (int what = 0; what < 8; what++) {
                    values.add((long) arena(arena, what));
                }
                values.add((long) why(arena, 1));
            }
            values.add((long) best());
            values.add(Double.doubleToLongBits(share()));
            values.add((long) buffer.length());
            for (char c : buffer.toCharArray()) {
                values.add((long) c);
            }
            long hash = 2741;
            for (long value : values) {
                hash = 31 * hash + value;
            }
            return hash;
        }
    }

    private static long real(MarkArenas x, int which, int a, int b, int c) {
        switch (which) {
            case 0: return x.open();
            case 1: return x.make(a, b);
            case 2: return x.link(a, b, c);
            case 3: return x.root(a, b == 1);
            case 4: return x.pin(a, b == 1);
            case 5: return x.giveBack(a, b);
            case 6: return x.close(a);
            case 7: return x.set(a, b);
            case 8: return x.append(a);
            case 9: return x.clearBuffer();
            case 10: return x.firstError();
            case 11: return x.makeAll(a);
            case 12: return x.undo();
            case 13: return x.object(a, b);
            case 14: return x.arena(a, b);
            case 15: return x.at(a, b);
            case 16: return x.count(a);
            case 17: return x.setting(a);
            case 18: return x.whyNot(a, b);
            case 19: return x.ifGiven(a, b);
            case 20: return x.ifLost(a);
            case 21: return x.best();
            case 22: return Double.doubleToRawLongBits(x.livingShare());
            default: return x.digest();
        }
    }

    private static final String[] NAMES = {"open", "make", "link", "root", "pin", "giveBack", "close",
        "set", "append", "clearBuffer", "firstError", "makeAll", "undo", "object", "arena", "at",
        "count", "setting", "whyNot", "ifGiven", "ifLost", "best", "livingShare", "digest"};

    private static final int[] STRANGE = {-1, -2, 2, 6, 17, 24, 64, 127, 32, Integer.MAX_VALUE,
        Integer.MIN_VALUE};

    private static long seed = 1;

    private static int below(int bound) {
        seed = seed * 6364136223846793005L + 1442695040888963407L;
        return (int) ((seed >>> 33) % bound);
    }

    private static String answer(MarkArenas x, int which, int a, int b, int c) {
        try {
            return String.valueOf(real(x, which, a, b, c));
        } catch (RuntimeException e) {
            return "throws." + e.getClass().getSimpleName();
        }
    }

    private static String due(Model m, int which, int a, int b, int c) {
        try {
            return String.valueOf(m.call(which, a, b, c));
        } catch (Refused e) {
            return "throws." + e.getMessage();
        }
    }

    /** How likely each call is, by the kind of the run. */
    private static int choose(int kind) {
        int[][] weights = {
            {4, 12, 16, 6, 2, 6, 3, 2, 0, 0, 0, 0, 4, 2, 2, 2, 1, 1, 2, 3, 2, 2, 1, 12},
            {4, 6, 24, 4, 1, 12, 4, 3, 0, 0, 0, 0, 1, 2, 2, 2, 1, 1, 2, 4, 2, 2, 1, 12},
            {6, 3, 6, 3, 4, 5, 5, 3, 10, 1, 6, 14, 8, 1, 1, 1, 1, 1, 1, 1, 1, 1, 1, 10},
            {3, 20, 10, 8, 3, 6, 1, 2, 0, 0, 0, 3, 2, 1, 1, 2, 1, 1, 6, 4, 1, 4, 2, 12},
        };
        int sum = 0;
        for (int weight : weights[kind]) {
            sum += weight;
        }
        int left = below(sum);
        for (int which = 0; which < weights[kind].length; which++) {
            left -= weights[kind][which];
            if (left < 0) {
                return which;
            }
        }
        return 23;
    }

    /** An object that there is, mostly. */
    private static int someObject(Model m) {
        if (m.w.things.isEmpty() || below(12) == 0) {
            return below(24);
        }
        return new ArrayList<>(m.w.things.keySet()).get(below(m.w.things.size()));
    }

    /** An arena that is open, mostly. */
    private static int someArena(Model m) {
        int arena = below(6);
        for (int step = 0; step < 6 && !m.w.open[arena] && below(12) != 0; step++) {
            arena = (arena + 1) % 6;
        }
        return arena;
    }

    private static int[] arguments(Model m, int which, int kind) {
        int[] most = {24, 24, 24};
        int biggest = kind == 1 ? 4 : 17;
        switch (which) {
            case 1: most = new int[] {6, biggest, 1}; break;
            case 2: most = new int[] {24, 2, 1}; break;
            case 3: case 4: most = new int[] {24, 2, 1}; break;
            case 5: case 18: most = new int[] {6, 6, 1}; break;
            case 6: case 11: most = new int[] {6, 1, 1}; break;
            case 7: most = new int[] {2, 3, 1}; break;
            case 8: return new int[] {"0123456789r<;x".charAt(below(14)), 0, 0};
            case 13: most = new int[] {24, 12, 1}; break;
            case 14: most = new int[] {6, 8, 1}; break;
            case 15: most = new int[] {6, 64, 1}; break;
            case 16: most = new int[] {11, 1, 1}; break;
            case 17: most = new int[] {2, 1, 1}; break;
            case 19: most = new int[] {24, 6, 1}; break;
            default: break;
        }
        int[] chosen = {below(most[0]), below(most[1]), below(most[2])};
        if (most[0] == 24) {
            chosen[0] = someObject(m);
        }
        if (most[0] == 6) {
            chosen[0] = someArena(m);
        }
        if (most[1] == 6) {
            chosen[1] = someArena(m);
        }
        if (which == 2) {
            chosen[2] = below(8) == 0 ? -1 : someObject(m);
        }
        if (which == 4 && below(2) == 0) {
            chosen[1] = 0;
        }
        if (below(25) == 0) {
            chosen[below(3)] = STRANGE[below(STRANGE.length)];
        }
        return chosen;
    }

    private static String someText() {
        StringBuilder text = new StringBuilder();
        int parts = 1 + below(6);
        for (int part = 0; part < parts; part++) {
            text.append(part == 0 ? "" : ";").append(1 + below(below(3) == 0 ? 17 : 9));
            text.append(below(3) == 0 ? "r" : "");
            text.append(below(2) == 0 ? "<" + below(below(8) == 0 ? 25 : 12) : "");
        }
        return text.toString();
    }

    private static final StringBuilder told = new StringBuilder();
    private static long[] answered = new long[24];

    private static boolean same(MarkArenas x, Model m, int which, int a, int b, int c) {
        String got = answer(x, which, a, b, c);
        String wanted = due(m, which, a, b, c);
        told.append("  ").append(NAMES[which]).append("(").append(a).append(", ").append(b)
                .append(", ").append(c).append(") -> ").append(got).append("\n");
        if (got.equals(wanted)) {
            answered[which] += got.startsWith("throws") ? 0 : 1;
            return true;
        }
        System.out.println(told + "due is " + wanted);
        return false;
    }

    private static boolean run(int kind) {
        MarkArenas x = new MarkArenas();
        Model m = new Model();
        told.setLength(0);
        int calls = 0;
        for (int i = below(4); i > 0; i--) {
            calls++;
            if (!same(x, m, 0, 0, 0, 0)) {
                return false;
            }
        }
        while (calls < CALLS) {
            int which = choose(kind);
            if (which == 11 && below(5) != 0) {
                String text = someText();
                calls += text.length() + 1;
                boolean right = same(x, m, 9, 0, 0, 0);
                for (int i = 0; i < text.length() && right; i++) {
                    right = same(x, m, 8, text.charAt(i), 0, 0);
                }
                if (!right) {
                    return false;
                }
            }
            int[] given = arguments(m, which, kind);
            calls++;
            if (!same(x, m, which, given[0], given[1], given[2])) {
                return false;
            }
        }
        return same(x, m, 23, 0, 0, 0);
    }

    public static void main(String[] args) {
        for (int i = 0; i < RUNS; i++) {
            seed = 1000003L * (i + 1);
            below(2);
            if (!run(i % 4)) {
                System.out.println("ModelTests: run " + i + " is not as the model");
                System.exit(1);
            }
        }
        StringBuilder line = new StringBuilder("ModelTests: " + RUNS + " runs as the model; answered");
        for (int which = 0; which < 24; which++) {
            line.append(" ").append(NAMES[which]).append(" ").append(answered[which]);
            if (answered[which] < 100) {
                System.out.println("ModelTests: " + NAMES[which] + " was hardly reached");
                System.exit(1);
            }
        }
        System.out.println(line);
    }
}
