import java.lang.reflect.Array;
import java.math.BigInteger;
import java.util.ArrayList;
import java.util.List;
import java.util.function.IntPredicate;

/**
 * The document once more, written as slowly and as unlike the class as can be: every foretelling
 * lives through a copy of the house, every undo is a copy of the whole house.
 * RandomRunsTest compares the two.
 */
public final class Model {
    static final int BAD = -1, NOT = -2, FULL = -3, NONE = -4, NULL = -11, CAST = -12, INDEX = -13, SIZE = -14;
    private static final Class<?>[] LANES = {byte.class, short.class, int.class, long.class};

    static final class Sleeper {
        int room, bears, slept, woken;

        Sleeper twin() {
            Sleeper s = new Sleeper();
            s.room = room;
            s.bears = bears;
            s.slept = slept;
            s.woken = woken;
            return s;
        }
    }

    static final class Thing {
        int kind, giver, dear, room, left;

        Thing twin() {
            Thing t = new Thing();
            t.kind = kind;
            t.giver = giver;
            t.dear = dear;
            t.room = room;
            t.left = left;
            return t;
        }

        int loud(int night) {
            if (left == 0) {
                return 0;
            }
            return switch (kind) {
                case 1 -> 2 * dear;
                case 3 -> night % 2 == 1 ? 2 * dear : 0;
                case 4 -> 1;
                default -> dear;
            };
        }

        void lessen(int night) {
            boolean rests = kind == 3 && night % 2 == 0 || kind == 4 && night % 3 != 0;
            if (!rests) {
                left = switch (kind) {
                    case 0 -> left > dear ? left - dear : 0;
                    case 1, 3 -> left > 1 ? left - 1 : 0;
                    default -> left >> 1;
                };
            }
        }
    }

    static final class World {
        List<Sleeper> sleepers = new ArrayList<>();
        List<Thing> things = new ArrayList<>();
        int night;
        long draw = 1;
        List<World> undos = new ArrayList<>();

        World twin() {
            World w = new World();
            sleepers.forEach(s -> w.sleepers.add(s.twin()));
            things.forEach(t -> w.things.add(t.twin()));
            w.night = night;
            w.draw = draw;
            w.undos.addAll(undos);
            return w;
        }

        int loud(int room) {
            return things.stream().filter(t -> t.room == room).mapToInt(t -> t.loud(night)).sum();
        }

        boolean sleeps(Sleeper s) {
            return s.bears >= loud(s.room);
        }

        boolean allSleep() {
            return sleepers.stream().allMatch(this::sleeps);
        }

        int wake() {
            return sleepers.stream().mapToInt(s -> s.woken).sum();
        }

        World live(int n) {
            for (int i = 0; i < n; i++) {
                for (Sleeper s : sleepers) {
                    if (sleeps(s)) {
                        s.slept++;
                    } else {
                        s.woken++;
                    }
                }
                things.forEach(t -> t.lessen(night));
                night++;
            }
            return this;
        }

        void keep() {
            undos.add(twin());
            if (undos.size() > 8) {
                undos.remove(0);
            }
        }
    }

    private World w = new World();
    private World image;
    private String tape = "";
    private final Object[] sheets = new Object[4];

    private static boolean in(long v, long low, long high) {
        return low <= v && v <= high;
    }

    private boolean noSleeper(int s) {
        return !in(s, 0, w.sleepers.size() - 1);
    }

    private boolean noThing(int t) {
        return !in(t, 0, w.things.size() - 1);
    }

    private static int set(int many, IntPredicate test) {
        int set = 0;
        for (int i = 0; i < many; i++) {
            set += test.test(i) ? 1 << i : 0;
        }
        return set;
    }

    private static Sleeper newSleeper(int room, int bears) {
        Sleeper s = new Sleeper();
        s.room = room;
        s.bears = bears;
        return s;
    }

    private static Thing newThing(int kind, int giver, int dear, int room) {
        Thing t = new Thing();
        t.kind = kind;
        t.giver = giver;
        t.dear = dear;
        t.room = room;
        t.left = 10 * dear;
        return t;
    }

    public int sleeper(int room, int bears) {
        if (!in(room, 0, 3) || !in(bears, 0, 60)) return BAD;
        if (w.sleepers.size() == 5) return FULL;
        w.undos.clear();
        w.sleepers.add(newSleeper(room, bears));
        return w.sleepers.size() - 1;
    }

    public int thing(int kind, int giver, int dear, int room) {
        if (!in(kind, 0, 4) || !in(giver, 0, 9) || !in(dear, 1, 9) || !in(room, 0, 3)) return BAD;
        if (w.things.size() == 8) return FULL;
        w.undos.clear();
        w.things.add(newThing(kind, giver, dear, room));
        return w.things.size() - 1;
    }

    public int of(int sleeper, int what) {
        if (noSleeper(sleeper) || !in(what, 0, 4)) return BAD;
        Sleeper s = w.sleepers.get(sleeper);
        return new int[] {s.room, s.bears, s.slept, s.woken, w.sleeps(s) ? 1 : 0}[what];
    }

    public int gift(int thing, int what) {
        if (noThing(thing) || !in(what, 0, 5)) return BAD;
        Thing t = w.things.get(thing);
        return new int[] {t.kind, t.giver, t.dear, t.room, t.left, t.loud(w.night)}[what];
    }

    public int room(int room, int what) {
        if (!in(room, 0, 3) || !in(what, 0, 2)) return BAD;
        return what == 0 ? w.loud(room)
                : what == 1 ? set(w.things.size(), i -> w.things.get(i).room == room)
                : set(w.sleepers.size(), i -> w.sleepers.get(i).room == room);
    }

    public int bed(int sleeper, int room) {
        if (noSleeper(sleeper) || !in(room, 0, 3)) return BAD;
        int was = w.sleepers.get(sleeper).room;
        w.sleepers.get(sleeper).room = room;
        return was;
    }

    public int type(int letter) {
        if (!in(letter, ' ', '~')) return BAD;
        if (tape.length() == 80) return FULL;
        tape += (char) letter;
        return tape.length();
    }

    /** What may stand next, as letters ('$' is the end), by what was read: a machine of states. */
    private static String may(String state, int sleepers, int things) {
        return switch (state) {
            case "room" -> "0123";
            case "colon" -> ":";
            case "number" -> "0123456789";
            case "sleeper" -> (sleepers < 5 ? "," : "") + ";$";
            case "kind" -> "pfcth";
            case "giver" -> "0123456789";
            case "dear" -> "123456789";
            case "place" -> "0123";
            default -> (things < 8 ? "," : "") + "$";
        };
    }

    public int house() {
        String text = tape;
        tape = "";
        World next = new World();
        String state = "room";
        int room = 0, kind = 0, giver = 0, dear = 0;
        for (int at = 0; at <= text.length(); at++) {
            char c = at < text.length() ? text.charAt(at) : '$';
            if (c == ' ') continue;
            boolean realDollar = at < text.length() && c == '$';
            if (realDollar || may(state, next.sleepers.size(), next.things.size()).indexOf(c) < 0) return -20 - at;
            if (c == '$') break;
            switch (state) {
                case "room" -> { room = c - '0'; state = "colon"; }
                case "colon" -> state = "number";
                case "number" -> {
                    String digits = text.substring(at).replaceAll("^([0-9]{1,2}).*$", "$1");
                    if (Integer.parseInt(digits) > 60) return -20 - at;
                    at += digits.length() - 1;
                    next.sleepers.add(newSleeper(room, Integer.parseInt(digits)));
                    state = "sleeper";
                }
                case "sleeper" -> state = c == ',' ? "room" : "kind";
                case "kind" -> { kind = "pfcth".indexOf(c); state = "giver"; }
                case "giver" -> { giver = c - '0'; state = "dear"; }
                case "dear" -> { dear = c - '0'; state = "place"; }
                case "place" -> { next.things.add(newThing(kind, giver, dear, c - '0')); state = "thing"; }
                default -> state = "kind";
            }
        }
        next.draw = w.draw;
        w = next;
        return w.sleepers.size();
    }

    public int count(int what) {
        return switch (what) {
            case 0 -> w.sleepers.size();
            case 1 -> w.things.size();
            case 2 -> w.night;
            case 3 -> w.things.stream().mapToInt(t -> t.left).sum();
            case 4 -> w.loud(0) + w.loud(1) + w.loud(2) + w.loud(3);
            case 5 -> set(w.things.size(), i -> w.things.get(i).left == 0);
            case 6 -> w.sleepers.stream().mapToInt(s -> s.slept).sum();
            case 7 -> w.wake();
            case 8 -> w.undos.size();
            default -> BAD;
        };
    }

    public int nights(int n) {
        return live(n, false);
    }

    public int drift(int n) {
        return live(n, true);
    }

    private int live(int n, boolean drift) {
        if (!in(n, 1, 40)) return BAD;
        if (w.night + n > 9999) return FULL;
        int before = w.wake();
        for (int i = 0; i < n; i++) {
            w.keep();
            if (drift) {
                w.draw = BigInteger.valueOf(w.draw).multiply(BigInteger.valueOf(1103515245))
                        .add(BigInteger.valueOf(12345)).mod(BigInteger.ONE.shiftLeft(31)).longValue();
                long high = w.draw / 65536;
                if (high % 3 == 0 && !w.things.isEmpty()) {
                    w.things.get((int) (high % w.things.size())).room = (int) (w.draw / 128 % 4);
                }
            }
            w.live(1);
        }
        return w.wake() - before;
    }

    public int move(int thing, int room) {
        if (noThing(thing) || !in(room, 0, 3)) return BAD;
        int was = w.things.get(thing).room;
        if (was == room) return NOT;
        w.keep();
        w.things.get(thing).room = room;
        return was;
    }

    public int pass(int thing, int giver) {
        if (noThing(thing) || !in(giver, 0, 9)) return BAD;
        Thing t = w.things.get(thing);
        int was = t.left;
        if (t.giver == giver) return NOT;
        w.keep();
        t.giver = giver;
        t.left = 10 * t.dear;
        return was;
    }

    public int back(int thing) {
        if (noThing(thing)) return BAD;
        int was = w.things.get(thing).left;
        if (was == 0) return NOT;
        w.keep();
        w.things.get(thing).left = 0;
        return was;
    }

    public int undo() {
        if (w.undos.isEmpty()) return NONE;
        List<World> undos = w.undos;
        World before = undos.remove(undos.size() - 1).twin();
        for (int i = 0; i < w.sleepers.size(); i++) {
            before.sleepers.get(i).room = w.sleepers.get(i).room;
        }
        before.undos = undos;
        w = before;
        return undos.size();
    }

    public int seed(int v) {
        if (v < 0) return BAD;
        int was = (int) w.draw;
        w.draw = v;
        return was;
    }

    public int ahead(int thing, int n) {
        if (noThing(thing) || !in(n, 0, 60)) return BAD;
        return w.twin().live(n).things.get(thing).left;
    }

    public int loudAhead(int room, int n) {
        if (!in(room, 0, 3) || !in(n, 0, 60)) return BAD;
        return w.twin().live(n).loud(room);
    }

    public int sleeps(int sleeper, int n) {
        if (noSleeper(sleeper) || !in(n, 0, 60)) return BAD;
        return w.twin().live(n).sleepers.get(sleeper).slept - w.sleepers.get(sleeper).slept;
    }

    public int peace() {
        World trial = w.twin();
        for (int k = 0; k <= 60; k++) {
            if (trial.allSleep()) return k;
            trial.live(1);
        }
        return NONE;
    }

    public int best(int thing, int n, int what) {
        if (noThing(thing) || !in(n, 1, 40) || !in(what, 0, 1)) return BAD;
        int[] woken = new int[4];
        for (int r = 0; r < 4; r++) {
            World trial = w.twin();
            trial.things.get(thing).room = r;
            woken[r] = trial.live(n).wake() - w.wake();
        }
        return what == 0 ? first(woken) : woken[first(woken)];
    }

    public int bestBed(int sleeper, int n, int what) {
        if (noSleeper(sleeper) || !in(n, 1, 40) || !in(what, 0, 1)) return BAD;
        int[] woken = new int[4];
        for (int r = 0; r < 4; r++) {
            World trial = w.twin();
            trial.sleepers.get(sleeper).room = r;
            woken[r] = trial.live(n).sleepers.get(sleeper).woken - w.sleepers.get(sleeper).woken;
        }
        return what == 0 ? first(woken) : woken[first(woken)];
    }

    private static int first(int[] numbers) {
        int at = numbers.length - 1;
        for (int i = at; i >= 0; i--) {
            at = numbers[i] <= numbers[at] ? i : at;
        }
        return at;
    }

    public int change(int n, int what) {
        if (!in(n, 1, 40) || !in(what, 0, 1)) return BAD;
        int[] pairs = {1, 2, 3, 12, 13, 23};
        int[] woken = new int[6];
        for (int p = 0; p < 6; p++) {
            World trial = w.twin();
            for (Thing t : trial.things) {
                int i = pairs[p] / 10, j = pairs[p] % 10;
                if (t.room == i) {
                    t.room = j;
                } else if (t.room == j) {
                    t.room = i;
                }
            }
            woken[p] = trial.live(n).wake();
        }
        int best = first(woken);
        if (woken[best] >= w.twin().live(n).wake()) return NONE;
        return what == 0 ? pairs[best] : woken[best] - w.wake();
    }

    public int backs(int n, int what) {
        if (!in(n, 1, 40) || !in(what, 0, 1)) return BAD;
        int least = -1;
        for (int set = 0; set < 1 << w.things.size(); set++) {
            if (least >= 0 && Integer.bitCount(set) >= Integer.bitCount(least)) continue;
            World trial = w.twin();
            for (int t = 0; t < w.things.size(); t++) {
                if ((set & 1 << t) != 0) trial.things.get(t).left = 0;
            }
            if (trial.live(n).wake() == w.wake()) least = set;
        }
        return least < 0 ? NONE : what == 0 ? Integer.bitCount(least) : least;
    }

    public int luck(int sleeper, int c, int what) {
        if (noSleeper(sleeper) || !in(c, 0, 10) || !in(what, 0, 1)) return BAD;
        BigInteger above = BigInteger.ZERO;
        BigInteger below = BigInteger.TEN.pow(w.things.size());
        for (int set = 0; set < 1 << w.things.size(); set++) {
            World trial = w.twin();
            BigInteger weight = BigInteger.ONE;
            for (int t = 0; t < w.things.size(); t++) {
                boolean silent = (set & 1 << t) != 0;
                weight = weight.multiply(BigInteger.valueOf(silent ? c : 10 - c));
                if (silent) trial.things.get(t).left = 0;
            }
            if (trial.sleeps(trial.sleepers.get(sleeper))) above = above.add(weight);
        }
        return (what == 0 ? above : below).divide(above.gcd(below)).intValueExact();
    }

    public int thanked(int giver) {
        if (!in(giver, 0, 9)) return BAD;
        return w.things.stream().filter(t -> t.giver == giver).mapToInt(t -> t.loud(w.night)).sum();
    }

    public int image() {
        image = w.twin();
        return 1;
    }

    public int restore() {
        if (image == null) return NONE;
        w = image.twin();
        return 1;
    }

    /** Real rows, and what the machine finds in them, in its own order. */
    private int refusal(int sheet, int lane, int i, int n) {
        if (sheets[sheet] == null) return NULL;
        if (sheets[sheet].getClass().getComponentType() != LANES[lane]) return CAST;
        try {
            System.arraycopy(sheets[sheet], i, Array.newInstance(LANES[lane], n), 0, n);
            return 0;
        } catch (IndexOutOfBoundsException e) {
            return INDEX;
        }
    }

    private void put(int sheet, int i, long v) {
        Object row = sheets[sheet];
        if (row instanceof byte[] bytes) {
            bytes[i] = (byte) v;
        } else if (row instanceof short[] shorts) {
            shorts[i] = (short) v;
        } else if (row instanceof int[] ints) {
            ints[i] = (int) v;
        } else {
            ((long[]) row)[i] = v;
        }
    }

    public int heard(int thing, int sheet, int lane, int i, int n, int what) {
        if (noThing(thing) || !in(sheet, 0, 3) || !in(lane, 0, 3) || !in(n, 1, 8) || !in(what, 0, 1)) return BAD;
        int refusal = refusal(sheet, lane, i, n);
        if (refusal != 0) return refusal;
        int set = 0;
        for (int guess = what; guess <= (what == 0 ? 4 : 9); guess++) {
            World trial = w.twin();
            Thing t = trial.things.get(thing);
            if (what == 0) {
                t.kind = guess;
            } else {
                t.dear = guess;
            }
            boolean so = true;
            for (int k = 0; k < n; k++) {
                trial.live(1);
                so &= t.left == Array.getLong(sheets[sheet], i + k);
            }
            set |= so ? 1 << guess : 0;
        }
        return set;
    }

    public int film(int thing, int n, int sheet, int lane, int i) {
        if (noThing(thing) || !in(n, 1, 24) || !in(sheet, 0, 3) || !in(lane, 0, 3)) return BAD;
        int refusal = refusal(sheet, lane, i, n);
        if (refusal != 0) return refusal;
        for (int k = 1; k <= n; k++) {
            put(sheet, i + k - 1, ahead(thing, k));
        }
        return n;
    }

    public int sheet(int sheet, int lane, int n) {
        if (!in(sheet, 0, 3) || !in(lane, 0, 3) || n > 24) return BAD;
        if (n < 0) return SIZE;
        sheets[sheet] = Array.newInstance(LANES[lane], n);
        return n;
    }

    public int drop(int sheet) {
        if (!in(sheet, 0, 3)) return BAD;
        if (sheets[sheet] == null) return NULL;
        int had = Array.getLength(sheets[sheet]);
        sheets[sheet] = null;
        return had;
    }

    public int item(int sheet, int lane, int i, long v) {
        if (!in(sheet, 0, 3) || !in(lane, 0, 3)) return BAD;
        int refusal = refusal(sheet, lane, i, 1);
        if (refusal != 0) return refusal;
        put(sheet, i, v);
        return 1;
    }

    public int copy(int from, int i, int to, int j, int n) {
        if (!in(from, 0, 3) || !in(to, 0, 3)) return BAD;
        try {
            System.arraycopy(sheets[from], i, sheets[to], j, n);
            return n;
        } catch (NullPointerException e) {
            return NULL;
        } catch (ArrayStoreException e) {
            return CAST;
        } catch (IndexOutOfBoundsException e) {
            return INDEX;
        }
    }
}
