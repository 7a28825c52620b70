/**
 * A house in which presents thank, night by night, until it is enough.
 * The words in capitals, and what each call answers, are those of the document.
 */
public final class ThankingGifts {
    public static final int BAD = -1, NOT = -2, FULL = -3, NONE = -4, NULL = -11, CAST = -12, INDEX = -13, SIZE = -14;

    private static final int ROOMS = 4, SLEEPERS = 5, THINGS = 8, KINDS = 5, GIVERS = 10, SHEETS = 4, LANES = 4;
    private static final int MOST_BORNE = 60, MOST_DEAR = 9, MOST_LEFT = 99;
    private static final int LAST_NIGHT = 9999, MOST_NIGHTS = 40, MOST_AHEAD = 60, MOST_HEARD = 8;
    private static final int UNDO_DEPTH = 8, TAPE_LENGTH = 80, SHEET_LENGTH = 24, FIRST_FAULT = -20;
    private static final long LOWEST_31_BITS = 0x7fffffffL;
    private static final String KIND_LETTERS = "pfcth";

    private final House house = new House();
    private final Past past = new Past();
    private final House imagedHouse = new House();
    private final Past imagedPast = new Past();
    private boolean imaged;
    private final House draft = new House();
    private final Reader reader = new Reader();
    private final Outlook outlook = new Outlook();
    private final Sheet[] sheets = {new Sheet(), new Sheet(), new Sheet(), new Sheet()};

    public ThankingGifts() {
    }

    // ---- 1 sleepers, things

    public int sleeper(int room, int bears) {
        if (!isRoom(room) || !within(bears, 0, MOST_BORNE)) {
            return BAD;
        }
        if (house.sleepers >= SLEEPERS) {
            return FULL;
        }
        past.forget();
        house.addSleeper(room, bears);
        return house.sleepers - 1;
    }

    public int thing(int kind, int giver, int dear, int room) {
        if (!within(kind, 0, KINDS - 1) || !isGiver(giver) || !within(dear, 1, MOST_DEAR) || !isRoom(room)) {
            return BAD;
        }
        if (house.things >= THINGS) {
            return FULL;
        }
        past.forget();
        house.addThing(kind, giver, dear, room);
        return house.things - 1;
    }

    public int of(int sleeper, int what) {
        if (!house.hasSleeper(sleeper)) {
            return BAD;
        }
        switch (what) {
            case 0:
                return house.bed[sleeper];
            case 1:
                return house.bears[sleeper];
            case 2:
                return house.now.slept[sleeper];
            case 3:
                return house.now.woken[sleeper];
            case 4:
                house.listen();
                return house.isAsleep(sleeper) ? 1 : 0;
            default:
                return BAD;
        }
    }

    public int gift(int thing, int what) {
        if (!house.hasThing(thing)) {
            return BAD;
        }
        switch (what) {
            case 0:
                return house.kind[thing];
            case 1:
                return house.now.giver[thing];
            case 2:
                return house.dear[thing];
            case 3:
                return house.now.place[thing];
            case 4:
                return house.now.left[thing];
            case 5:
                return house.loudWith(thing, house.now.left[thing], 0);
            default:
                return BAD;
        }
    }

    public int room(int room, int what) {
        if (!isRoom(room)) {
            return BAD;
        }
        switch (what) {
            case 0:
                house.listen();
                return house.roomLoud[room];
            case 1:
                return house.thingsIn(room);
            case 2:
                return house.sleepersIn(room);
            default:
                return BAD;
        }
    }

    public int bed(int sleeper, int room) {
        if (!house.hasSleeper(sleeper) || !isRoom(room)) {
            return BAD;
        }
        int before = house.bed[sleeper];
        house.bed[sleeper] = room;
        return before;
    }

    public int type(int letter) {
        if (!within(letter, 32, 126)) {
            return BAD;
        }
        if (reader.length >= TAPE_LENGTH) {
            return FULL;
        }
        reader.addLetter((char) letter);
        return reader.length;
    }

    public int house() {
        draft.clear(house.now.draw);
        boolean good = reader.readHouse(draft);
        int stop = reader.place;
        reader.clear();
        if (!good) {
            return FIRST_FAULT - stop;
        }
        past.forget();
        house.takeAll(draft);
        return house.sleepers;
    }

    public int count(int what) {
        switch (what) {
            case 0:
                return house.sleepers;
            case 1:
                return house.things;
            case 2:
                return house.now.night;
            case 3:
                return sum(house.now.left, house.things);
            case 4:
                return house.loudOfAll();
            case 5:
                return house.silentThings();
            case 6:
                return sum(house.now.slept, house.sleepers);
            case 7:
                return sum(house.now.woken, house.sleepers);
            case 8:
                return past.known;
            default:
                return BAD;
        }
    }

    // ---- what is done

    public int nights(int n) {
        return spendNights(n, false);
    }

    public int move(int thing, int room) {
        if (!house.hasThing(thing) || !isRoom(room)) {
            return BAD;
        }
        int before = house.now.place[thing];
        if (before == room) {
            return NOT;
        }
        past.keep(house.now);
        house.now.place[thing] = room;
        return before;
    }

    public int pass(int thing, int giver) {
        if (!house.hasThing(thing) || !isGiver(giver)) {
            return BAD;
        }
        if (house.now.giver[thing] == giver) {
            return NOT;
        }
        past.keep(house.now);
        int before = house.now.left[thing];
        house.now.giver[thing] = giver;
        house.now.left[thing] = leftAtFirst(house.dear[thing]);
        return before;
    }

    public int back(int thing) {
        if (!house.hasThing(thing)) {
            return BAD;
        }
        int before = house.now.left[thing];
        if (before == 0) {
            return NOT;
        }
        past.keep(house.now);
        house.now.left[thing] = 0;
        return before;
    }

    public int drift(int n) {
        return spendNights(n, true);
    }

    public int undo() {
        if (past.known == 0) {
            return NONE;
        }
        past.bringBack(house.now);
        return past.known;
    }

    public int seed(int v) {
        if (v < 0) {
            return BAD;
        }
        int before = house.now.draw;
        house.now.draw = v;
        return before;
    }

    // ---- 2 foretold

    public int ahead(int thing, int n) {
        if (!house.hasThing(thing) || !within(n, 0, MOST_AHEAD)) {
            return BAD;
        }
        int left = house.now.left[thing];
        for (int k = 0; k < n; k++) {
            left = house.leftBehind(house.kind[thing], house.dear[thing], left, k);
        }
        return left;
    }

    public int loudAhead(int room, int n) {
        if (!isRoom(room) || !within(n, 0, MOST_AHEAD)) {
            return BAD;
        }
        outlook.look(house, n + 1);
        outlook.listen(n, 0);
        return outlook.roomLoud[room];
    }

    public int sleeps(int sleeper, int n) {
        if (!house.hasSleeper(sleeper) || !within(n, 0, MOST_AHEAD)) {
            return BAD;
        }
        outlook.look(house, n);
        return n - outlook.wakingsIn(house.bed[sleeper], house.bears[sleeper]);
    }

    public int peace() {
        outlook.look(house, MOST_AHEAD + 1);
        for (int k = 0; k <= MOST_AHEAD; k++) {
            if (outlook.wokenIn(house, k, 0) == 0) {
                return k;
            }
        }
        return NONE;
    }

    public int best(int thing, int n, int what) {
        if (!house.hasThing(thing) || !within(n, 1, MOST_NIGHTS) || !within(what, 0, 1)) {
            return BAD;
        }
        outlook.look(house, n);
        int which = 0;
        int fewest = 0;
        for (int r = 0; r < ROOMS; r++) {
            outlook.place[thing] = r;
            int woken = outlook.wakings(house);
            if (r == 0 || woken < fewest) {
                which = r;
                fewest = woken;
            }
        }
        return what == 0 ? which : fewest;
    }

    public int bestBed(int sleeper, int n, int what) {
        if (!house.hasSleeper(sleeper) || !within(n, 1, MOST_NIGHTS) || !within(what, 0, 1)) {
            return BAD;
        }
        outlook.look(house, n);
        int which = 0;
        int fewest = 0;
        for (int r = 0; r < ROOMS; r++) {
            int woken = outlook.wakingsIn(r, house.bears[sleeper]);
            if (r == 0 || woken < fewest) {
                which = r;
                fewest = woken;
            }
        }
        return what == 0 ? which : fewest;
    }

    public int change(int n, int what) {
        if (!within(n, 1, MOST_NIGHTS) || !within(what, 0, 1)) {
            return BAD;
        }
        outlook.look(house, n);
        int which = NONE;
        int fewest = outlook.wakings(house);
        for (int i = 0; i < ROOMS; i++) {
            for (int j = i + 1; j < ROOMS; j++) {
                outlook.swapRooms(house, i, j);
                int woken = outlook.wakings(house);
                if (woken < fewest) {
                    which = 10 * i + j;
                    fewest = woken;
                }
            }
        }
        return which == NONE || what == 0 ? which : fewest;
    }

    public int backs(int n, int what) {
        if (!within(n, 1, MOST_NIGHTS) || !within(what, 0, 1)) {
            return BAD;
        }
        outlook.look(house, n);
        for (int size = 0; size <= house.things; size++) {
            for (int set = 0; set < 1 << house.things; set++) {
                if (Integer.bitCount(set) == size && outlook.isQuietWithout(house, set)) {
                    return what == 0 ? size : set;
                }
            }
        }
        return NONE;
    }

    public int luck(int sleeper, int c, int what) {
        if (!house.hasSleeper(sleeper) || !within(c, 0, 10) || !within(what, 0, 1)) {
            return BAD;
        }
        int thanking = house.thingsIn(house.bed[sleeper]) & ~house.silentThings();
        int above = 0;
        int below = 1;
        for (int t = 0; t < house.things; t++) {
            below *= isIn(thanking, t) ? 10 : 1;
        }
        for (int silent = 0; silent < 1 << house.things; silent++) {
            boolean possible = (silent & ~thanking) == 0;
            if (possible && house.loudOfSet(thanking & ~silent) <= house.bears[sleeper]) {
                above += ways(thanking, silent, c);
            }
        }
        int common = greatestCommon(above, below);
        return (what == 0 ? above : below) / common;
    }

    public int thanked(int giver) {
        if (!isGiver(giver)) {
            return BAD;
        }
        return house.loudOfSet(house.thingsOf(giver));
    }

    public int image() {
        imagedHouse.takeAll(house);
        imagedPast.takeAll(past);
        imaged = true;
        return 1;
    }

    public int restore() {
        if (!imaged) {
            return NONE;
        }
        house.takeAll(imagedHouse);
        past.takeAll(imagedPast);
        return 1;
    }

    // ---- 3 sheets

    public int heard(int thing, int sheet, int lane, int i, int n, int what) {
        if (!house.hasThing(thing) || !isSheet(sheet) || !isLane(lane)
                || !within(n, 1, MOST_HEARD) || !within(what, 0, 1)) {
            return BAD;
        }
        int refusal = sheets[sheet].refusal(lane, i, n);
        if (refusal != 0) {
            return refusal;
        }
        return what == 0 ? kindsHeard(thing, sheets[sheet], i, n) : dearsHeard(thing, sheets[sheet], i, n);
    }

    public int film(int thing, int n, int sheet, int lane, int i) {
        if (!house.hasThing(thing) || !within(n, 1, SHEET_LENGTH) || !isSheet(sheet) || !isLane(lane)) {
            return BAD;
        }
        int refusal = sheets[sheet].refusal(lane, i, n);
        if (refusal != 0) {
            return refusal;
        }
        int left = house.now.left[thing];
        for (int k = 0; k < n; k++) {
            left = house.leftBehind(house.kind[thing], house.dear[thing], left, k);
            sheets[sheet].put(i + k, left);
        }
        return n;
    }

    public int sheet(int sheet, int lane, int n) {
        if (!isSheet(sheet) || !isLane(lane) || n > SHEET_LENGTH) {
            return BAD;
        }
        if (n < 0) {
            return SIZE;
        }
        sheets[sheet].renew(lane, n);
        return n;
    }

    public int drop(int sheet) {
        if (!isSheet(sheet)) {
            return BAD;
        }
        if (!sheets[sheet].present) {
            return NULL;
        }
        sheets[sheet].present = false;
        return sheets[sheet].length;
    }

    public int item(int sheet, int lane, int i, long v) {
        if (!isSheet(sheet) || !isLane(lane)) {
            return BAD;
        }
        int refusal = sheets[sheet].refusal(lane, i, 1);
        if (refusal != 0) {
            return refusal;
        }
        sheets[sheet].put(i, v);
        return 1;
    }

    public int copy(int from, int i, int to, int j, int n) {
        if (!isSheet(from) || !isSheet(to)) {
            return BAD;
        }
        Sheet source = sheets[from];
        Sheet target = sheets[to];
        if (!source.present || !target.present) {
            return NULL;
        }
        if (source.lane != target.lane) {
            return CAST;
        }
        if (!source.spans(i, n) || !target.spans(j, n)) {
            return INDEX;
        }
        System.arraycopy(source.items, i, target.items, j, n);
        return n;
    }

    // ---- helpers of the calls

    private int spendNights(int n, boolean drifting) {
        if (!within(n, 1, MOST_NIGHTS)) {
            return BAD;
        }
        if (house.now.night + n > LAST_NIGHT) {
            return FULL;
        }
        int woken = 0;
        for (int k = 0; k < n; k++) {
            past.keep(house.now);
            if (drifting) {
                house.moveByDraw();
            }
            woken += house.spendNight();
        }
        return woken;
    }

    private int kindsHeard(int thing, Sheet row, int i, int n) {
        int set = 0;
        for (int kind = 0; kind < KINDS; kind++) {
            if (isHeardAs(kind, house.dear[thing], house.now.left[thing], row, i, n)) {
                set |= 1 << kind;
            }
        }
        return set;
    }

    private int dearsHeard(int thing, Sheet row, int i, int n) {
        int set = 0;
        for (int dear = 1; dear <= MOST_DEAR; dear++) {
            if (isHeardAs(house.kind[thing], dear, house.now.left[thing], row, i, n)) {
                set |= 1 << dear;
            }
        }
        return set;
    }

    private boolean isHeardAs(int kind, int dear, int leftNow, Sheet row, int i, int n) {
        int left = leftNow;
        for (int k = 0; k < n; k++) {
            left = house.leftBehind(kind, dear, left, k);
            if (row.items[i + k] != left) {
                return false;
            }
        }
        return true;
    }

    /** In how many of the 10 ways of each thanking THING just the silent ones are silent. */
    private int ways(int thanking, int silent, int c) {
        int product = 1;
        for (int t = 0; t < THINGS; t++) {
            if (isIn(thanking, t)) {
                product *= isIn(silent, t) ? c : 10 - c;
            }
        }
        return product;
    }

    /** Of a number and a positive one, which keeps the answer at 1 or above. */
    private static int greatestCommon(int number, int positive) {
        int a = positive;
        int b = number;
        for (int step = 0; step < 100 && b != 0; step++) {
            int rest = a % b;
            a = b;
            b = rest;
        }
        return a == 0 ? 1 : a;
    }

    private static boolean within(int number, int least, int most) {
        return number >= least && number <= most;
    }

    private static boolean isRoom(int number) {
        return within(number, 0, ROOMS - 1);
    }

    private static boolean isGiver(int number) {
        return within(number, 0, GIVERS - 1);
    }

    private static boolean isSheet(int number) {
        return within(number, 0, SHEETS - 1);
    }

    private static boolean isLane(int number) {
        return within(number, 0, LANES - 1);
    }

    private static boolean isIn(int set, int number) {
        return (set >> number & 1) == 1;
    }

    private static int leftAtFirst(int dear) {
        return Math.min(10 * dear, MOST_LEFT);
    }

    private static int sum(int[] numbers, int many) {
        int all = 0;
        for (int i = 0; i < many && i < numbers.length; i++) {
            all += numbers[i];
        }
        return all;
    }

    // ---- the KINDS, each below the one it differs from

    private static class Plain {
        /** Asked only while something is LEFT. */
        int loudness(int dear, int night) {
            return dear;
        }

        int leftBehind(int left, int dear, int night) {
            return Math.max(left - dear, 0);
        }
    }

    private static class Fulsome extends Plain {
        @Override
        int loudness(int dear, int night) {
            return 2 * dear;
        }

        @Override
        int leftBehind(int left, int dear, int night) {
            return Math.max(left - 1, 0);
        }
    }

    private static class Curt extends Plain {
        @Override
        int leftBehind(int left, int dear, int night) {
            return left / 2;
        }
    }

    private static final class Turnabout extends Fulsome {
        @Override
        int loudness(int dear, int night) {
            return night % 2 == 0 ? 0 : super.loudness(dear, night);
        }

        @Override
        int leftBehind(int left, int dear, int night) {
            return night % 2 == 0 ? left : super.leftBehind(left, dear, night);
        }
    }

    private static final class Hum extends Curt {
        @Override
        int loudness(int dear, int night) {
            return 1;
        }

        @Override
        int leftBehind(int left, int dear, int night) {
            return night % 3 == 0 ? super.leftBehind(left, dear, night) : left;
        }
    }

    // ---- the house

    /** Just what an undo brings back; beds are not in it, so they stay as told since. */
    private static final class Moment {
        final int[] place = new int[THINGS];
        final int[] giver = new int[THINGS];
        final int[] left = new int[THINGS];
        final int[] slept = new int[SLEEPERS];
        final int[] woken = new int[SLEEPERS];
        int night;
        int draw = 1;

        void takeAll(Moment other) {
            System.arraycopy(other.place, 0, place, 0, THINGS);
            System.arraycopy(other.giver, 0, giver, 0, THINGS);
            System.arraycopy(other.left, 0, left, 0, THINGS);
            System.arraycopy(other.slept, 0, slept, 0, SLEEPERS);
            System.arraycopy(other.woken, 0, woken, 0, SLEEPERS);
            night = other.night;
            draw = other.draw;
        }
    }

    private static final class House {
        private final Plain[] kinds = {new Plain(), new Fulsome(), new Curt(), new Turnabout(), new Hum()};
        final int[] bed = new int[SLEEPERS];
        final int[] bears = new int[SLEEPERS];
        final int[] kind = new int[THINGS];
        final int[] dear = new int[THINGS];
        final int[] roomLoud = new int[ROOMS];
        final Moment now = new Moment();
        int sleepers;
        int things;

        void takeAll(House other) {
            System.arraycopy(other.bed, 0, bed, 0, SLEEPERS);
            System.arraycopy(other.bears, 0, bears, 0, SLEEPERS);
            System.arraycopy(other.kind, 0, kind, 0, THINGS);
            System.arraycopy(other.dear, 0, dear, 0, THINGS);
            now.takeAll(other.now);
            sleepers = other.sleepers;
            things = other.things;
        }

        void clear(int draw) {
            sleepers = 0;
            things = 0;
            now.night = 0;
            now.draw = draw;
        }

        void addSleeper(int room, int bearing) {
            if (sleepers >= SLEEPERS) {
                return;
            }
            bed[sleepers] = room;
            bears[sleepers] = bearing;
            now.slept[sleepers] = 0;
            now.woken[sleepers] = 0;
            sleepers++;
        }

        void addThing(int ofKind, int giver, int dearness, int room) {
            if (things >= THINGS) {
                return;
            }
            kind[things] = ofKind;
            dear[things] = dearness;
            now.giver[things] = giver;
            now.place[things] = room;
            now.left[things] = leftAtFirst(dearness);
            things++;
        }

        boolean hasSleeper(int number) {
            return within(number, 0, sleepers - 1);
        }

        boolean hasThing(int number) {
            return within(number, 0, things - 1);
        }

        /** Behind the NIGHT that is k nights from now, of what is LEFT ahead of it. */
        int leftBehind(int ofKind, int dearness, int left, int k) {
            return kinds[ofKind].leftBehind(left, dearness, now.night + k);
        }

        /** In the NIGHT that is k nights from now, if so much is LEFT then. */
        int loudWith(int thing, int left, int k) {
            return left == 0 ? 0 : kinds[kind[thing]].loudness(dear[thing], now.night + k);
        }

        int loudOfSet(int set) {
            int loud = 0;
            for (int t = 0; t < things; t++) {
                loud += isIn(set, t) ? loudWith(t, now.left[t], 0) : 0;
            }
            return loud;
        }

        int loudOfAll() {
            return loudOfSet((1 << things) - 1);
        }

        int thingsIn(int room) {
            return placesOf(room, now.place, things);
        }

        int thingsOf(int giver) {
            return placesOf(giver, now.giver, things);
        }

        int silentThings() {
            return placesOf(0, now.left, things);
        }

        int sleepersIn(int room) {
            return placesOf(room, bed, sleepers);
        }

        /** So that each THING is asked once a NIGHT, not once for each SLEEPER. */
        void listen() {
            for (int r = 0; r < ROOMS; r++) {
                roomLoud[r] = 0;
            }
            for (int t = 0; t < things; t++) {
                roomLoud[now.place[t]] += loudWith(t, now.left[t], 0);
            }
        }

        /** By the latest listening. */
        boolean isAsleep(int sleeper) {
            return roomLoud[bed[sleeper]] <= bears[sleeper];
        }

        int spendNight() {
            int wokenNow = 0;
            listen();
            for (int s = 0; s < sleepers; s++) {
                if (isAsleep(s)) {
                    now.slept[s]++;
                } else {
                    now.woken[s]++;
                    wokenNow++;
                }
            }
            for (int t = 0; t < things; t++) {
                now.left[t] = leftBehind(kind[t], dear[t], now.left[t], 0);
            }
            now.night++;
            return wokenNow;
        }

        void moveByDraw() {
            now.draw = (int) ((now.draw * 1103515245L + 12345L) & LOWEST_31_BITS);
            int high = now.draw / 65536;
            if (high % 3 == 0 && things > 0) {
                now.place[high % things] = now.draw / 128 % ROOMS;
            }
        }

        private static int placesOf(int sought, int[] numbers, int many) {
            int set = 0;
            for (int i = 0; i < many && i < numbers.length; i++) {
                set |= numbers[i] == sought ? 1 << i : 0;
            }
            return set;
        }
    }

    /** A ring, so that the oldest is lost where a ninth is kept. */
    private static final class Past {
        private final Moment[] kept = new Moment[UNDO_DEPTH];
        private int next;
        int known;

        Past() {
            for (int i = 0; i < UNDO_DEPTH; i++) {
                kept[i] = new Moment();
            }
        }

        void keep(Moment moment) {
            kept[next].takeAll(moment);
            next = (next + 1) % UNDO_DEPTH;
            known = Math.min(known + 1, UNDO_DEPTH);
        }

        void bringBack(Moment into) {
            if (known == 0) {
                return;
            }
            next = (next + UNDO_DEPTH - 1) % UNDO_DEPTH;
            known--;
            into.takeAll(kept[next]);
        }

        void forget() {
            known = 0;
        }

        void takeAll(Past other) {
            for (int i = 0; i < UNDO_DEPTH; i++) {
                kept[i].takeAll(other.kept[i]);
            }
            next = other.next;
            known = other.known;
        }
    }

    /**
     * How loud each THING will be does not depend on its ROOM: it is worked out once a call,
     * and then THINGS are tried in other ROOMS here, without a change to the house.
     */
    private static final class Outlook {
        private final int[] thingLoud = new int[(MOST_AHEAD + 1) * THINGS];
        private int nights;
        private int things;
        final int[] place = new int[THINGS];
        final int[] roomLoud = new int[ROOMS];

        void look(House house, int many) {
            nights = Math.min(many, MOST_AHEAD + 1);
            things = house.things;
            System.arraycopy(house.now.place, 0, place, 0, THINGS);
            for (int t = 0; t < things; t++) {
                int left = house.now.left[t];
                for (int k = 0; k < nights; k++) {
                    thingLoud[k * THINGS + t] = house.loudWith(t, left, k);
                    left = house.leftBehind(house.kind[t], house.dear[t], left, k);
                }
            }
        }

        void swapRooms(House house, int i, int j) {
            for (int t = 0; t < things; t++) {
                int room = house.now.place[t];
                place[t] = room == i ? j : room == j ? i : room;
            }
        }

        void listen(int k, int silent) {
            for (int r = 0; r < ROOMS; r++) {
                roomLoud[r] = 0;
            }
            for (int t = 0; t < things; t++) {
                roomLoud[place[t]] += isIn(silent, t) ? 0 : thingLoud[k * THINGS + t];
            }
        }

        int wokenIn(House house, int k, int silent) {
            listen(k, silent);
            int woken = 0;
            for (int s = 0; s < house.sleepers; s++) {
                woken += roomLoud[house.bed[s]] > house.bears[s] ? 1 : 0;
            }
            return woken;
        }

        int wakings(House house) {
            int woken = 0;
            for (int k = 0; k < nights; k++) {
                woken += wokenIn(house, k, 0);
            }
            return woken;
        }

        int wakingsIn(int room, int bearing) {
            int woken = 0;
            for (int k = 0; k < nights; k++) {
                listen(k, 0);
                woken += roomLoud[room] > bearing ? 1 : 0;
            }
            return woken;
        }

        boolean isQuietWithout(House house, int silent) {
            for (int k = 0; k < nights; k++) {
                if (wokenIn(house, k, silent) > 0) {
                    return false;
                }
            }
            return true;
        }
    }

    /** THE TAPE, and where in it the reading stands: where it fails, that is the place of the fault. */
    private static final class Reader {
        private final char[] tape = new char[TAPE_LENGTH];
        int length;
        int place;

        void addLetter(char letter) {
            if (length < TAPE_LENGTH) {
                tape[length] = letter;
                length++;
            }
        }

        void clear() {
            length = 0;
        }

        boolean readHouse(House into) {
            place = 0;
            if (!readSleepers(into)) {
                return false;
            }
            if (takes(';') && !readThings(into)) {
                return false;
            }
            skipBlanks();
            return place == length;
        }

        private boolean readSleepers(House into) {
            boolean more = true;
            for (int i = 0; i < SLEEPERS && more; i++) {
                if (!readSleeper(into)) {
                    return false;
                }
                more = i < SLEEPERS - 1 && takes(',');
            }
            return true;
        }

        private boolean readThings(House into) {
            boolean more = true;
            for (int i = 0; i < THINGS && more; i++) {
                if (!readThing(into)) {
                    return false;
                }
                more = i < THINGS - 1 && takes(',');
            }
            return true;
        }

        private boolean readSleeper(House into) {
            int room = readDigit(0, ROOMS - 1);
            if (room < 0 || !takes(':')) {
                return false;
            }
            int bearing = readNumber();
            if (bearing < 0) {
                return false;
            }
            into.addSleeper(room, bearing);
            return true;
        }

        private boolean readThing(House into) {
            int ofKind = readKind();
            if (ofKind < 0) {
                return false;
            }
            int giver = readDigit(0, GIVERS - 1);
            if (giver < 0) {
                return false;
            }
            int dearness = readDigit(1, MOST_DEAR);
            if (dearness < 0) {
                return false;
            }
            int room = readDigit(0, ROOMS - 1);
            if (room < 0) {
                return false;
            }
            into.addThing(ofKind, giver, dearness, room);
            return true;
        }

        private int readKind() {
            skipBlanks();
            int ofKind = place < length ? KIND_LETTERS.indexOf(tape[place]) : -1;
            place += ofKind < 0 ? 0 : 1;
            return ofKind;
        }

        private int readDigit(int least, int most) {
            skipBlanks();
            int digit = digitHere();
            if (!within(digit, least, most)) {
                return -1;
            }
            place++;
            return digit;
        }

        private int readNumber() {
            int number = readDigit(0, 9);
            if (number < 0) {
                return -1;
            }
            int start = place - 1;
            int second = digitHere();
            if (second >= 0) {
                number = 10 * number + second;
                place++;
            }
            if (number > MOST_BORNE) {
                place = start;
                return -1;
            }
            return number;
        }

        private int digitHere() {
            if (place >= length || tape[place] < '0' || tape[place] > '9') {
                return -1;
            }
            return tape[place] - '0';
        }

        private boolean takes(char letter) {
            skipBlanks();
            if (place >= length || tape[place] != letter) {
                return false;
            }
            place++;
            return true;
        }

        private void skipBlanks() {
            while (place < length && tape[place] == ' ') {
                place++;
            }
        }
    }

    /** One row of longs for every LANE: an item is cut to its LANE where it is put. */
    private static final class Sheet {
        final long[] items = new long[SHEET_LENGTH];
        boolean present;
        int lane;
        int length;

        void renew(int newLane, int newLength) {
            present = true;
            lane = newLane;
            length = newLength;
            for (int i = 0; i < SHEET_LENGTH; i++) {
                items[i] = 0;
            }
        }

        int refusal(int asLane, int from, int many) {
            if (!present) {
                return NULL;
            }
            if (lane != asLane) {
                return CAST;
            }
            return spans(from, many) ? 0 : INDEX;
        }

        /** Subtracts where a sum of huge numbers would wrap round. */
        boolean spans(int from, int many) {
            return from >= 0 && many >= 0 && from <= length && many <= length - from;
        }

        void put(int i, long v) {
            switch (lane) {
                case 0:
                    items[i] = (byte) v;
                    break;
                case 1:
                    items[i] = (short) v;
                    break;
                case 2:
                    items[i] = (int) v;
                    break;
                default:
                    items[i] = v;
                    break;
            }
        }
    }
}
