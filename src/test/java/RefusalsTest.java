import java.util.ArrayList;
import java.util.List;
import java.util.function.Supplier;
import java.util.function.ToIntFunction;

/**
 * Each refusal that a call names, which of several is given, and that it changes nothing: of two objects
 * that were made alike one is refused the call, then all that calls can tell is the same of both.
 */
public final class RefusalsTest {
    private static final int BAD = -1, NOT = -2, FULL = -3, NONE = -4, NULL = -11, CAST = -12, INDEX = -13, SIZE = -14;
    private static final int LOW = Integer.MIN_VALUE, HIGH = Integer.MAX_VALUE;
    private static final int[] NO_ROOM = {-1, 4, LOW, HIGH}, NO_SLEEPER = {-1, 3, 4, 5, LOW, HIGH};
    private static final int[] NO_THING = {-1, 5, 7, 8, LOW, HIGH}, NO_GIVER = {-1, 10, LOW, HIGH};
    private static final int[] NO_SHEET = {-1, 4, LOW, HIGH}, NO_LANE = {-1, 4, LOW, HIGH};
    private static final int[] NO_PLACE = {-1, 24, 25, LOW, HIGH}, NOT_0_OR_1 = {-1, 2, LOW, HIGH};
    private static final int[] NOT_1_TO_40 = {0, -1, 41, LOW, HIGH}, NOT_0_TO_60 = {-1, 61, LOW, HIGH};
    private static final int BYTES = 0, INTS = 2, LONGS = 3;
    private static final Due DUE = new Due();

    public static void main(String[] args) {
        ofSeveralTheFirst();
        butAsTold();
        newSleepers();
        newThings();
        ofSleepersThingsRooms();
        counts();
        beds();
        letters();
        faults();
        nightsAndDrifts();
        movedPassedGivenBack();
        undoneAndSeeds();
        foretold();
        bestRooms();
        bestBeds();
        changes();
        backs();
        lucks();
        thanked();
        images();
        heardBad();
        heardOfTheMachine();
        films();
        sheets();
        items();
        copies();
        ofANewObject();
        askingChangesNothing();
        DUE.close("RefusalsTest");
    }

    /** Three sleepers, five things; sheets 0 (24 bytes), 1 (8 longs), 2 (no ints); a tape that is a house. */
    private static ThankingGifts lived() {
        ThankingGifts x = Due.houseOf("1:9,2:0,1:30;p151,f240,c382,t493,h511");
        x.seed(77);
        x.drift(2);
        x.image();
        x.nights(4);
        x.move(0, 3);
        x.move(0, 2);
        x.pass(1, 7);
        x.back(2);
        x.sheet(0, BYTES, 24);
        x.film(1, 24, 0, BYTES, 0);
        x.sheet(1, LONGS, 8);
        x.film(3, 8, 1, LONGS, 0);
        x.sheet(2, INTS, 0);
        Due.type(x, "2:7,1:1");
        return x;
    }

    /** Five sleepers, eight things, 80 letters. */
    private static ThankingGifts full() {
        ThankingGifts x = Due.houseOf("0:0,1:9,2:9,3:9,0:9;p010,f020,c030,t040,h051,p061,f071,c082");
        x.nights(3);
        x.move(7, 3);
        Due.type(x, "2:7,1:1" + " ".repeat(73));
        return x;
    }

    /** Night 9998. */
    private static ThankingGifts late() {
        ThankingGifts x = Due.houseInNight("0:0,1:9;p010,f020", 9997);
        x.pass(1, 5);
        x.nights(1);
        return x;
    }

    /** "What is refused changes nothing, but as told." */
    private static void refused(String label, Supplier<ThankingGifts> made, ToIntFunction<ThankingGifts> call,
            int want) {
        ThankingGifts refusing = made.get();
        DUE.is(label, call.applyAsInt(refusing), want);
        List<Integer> all = allOf(refusing);
        List<Integer> due = allOf(made.get());
        DUE.isTrue(label + " changes nothing: " + all + " is " + due, all.equals(due));
    }

    private static void refused(String label, ToIntFunction<ThankingGifts> call, int want) {
        refused(label, RefusalsTest::lived, call, want);
    }

    /** All that calls can tell; what tells it by changing it comes last. */
    private static List<Integer> allOf(ThankingGifts x) {
        List<Integer> all = new ArrayList<>();
        tellHouse(x, all);
        int draw = x.seed(0);
        all.add(draw);
        x.seed(draw);
        tellSheets(x, all);
        int known = x.count(8);
        for (int i = 0; i <= known; i++) {
            all.add(x.undo());
            tellMoment(x, all);
        }
        all.add(x.restore());
        tellMoment(x, all);
        all.add(x.seed(0));
        all.add(x.undo());
        tellMoment(x, all);
        all.add(x.type(' '));
        all.add(x.house());
        tellMoment(x, all);
        for (int sheet = 0; sheet < 4; sheet++) {
            all.add(x.drop(sheet));
        }
        return all;
    }

    private static void tellHouse(ThankingGifts x, List<Integer> all) {
        for (int what = 0; what <= 8; what++) {
            all.add(x.count(what));
        }
        for (int s = 0; s < x.count(0); s++) {
            for (int what = 0; what <= 3; what++) {
                all.add(x.of(s, what));
            }
        }
        for (int t = 0; t < x.count(1); t++) {
            for (int what = 0; what <= 4; what++) {
                all.add(x.gift(t, what));
            }
        }
    }

    private static void tellMoment(ThankingGifts x, List<Integer> all) {
        all.add(x.count(2));
        all.add(x.count(3));
        all.add(x.count(7));
        all.add(x.room(2, 1));
        all.add(x.room(3, 1));
        all.add(x.room(1, 2));
    }

    private static void tellSheets(ThankingGifts x, List<Integer> all) {
        int[] laneOf = {BYTES, LONGS, INTS, BYTES};
        for (int sheet = 0; sheet < 4; sheet++) {
            int thing = sheet == 1 ? 3 : 1;
            for (int i = 0; i < 24; i += sheet == 0 ? 8 : 24) {
                all.add(x.heard(thing, sheet, laneOf[sheet], i, 1, 0));
                all.add(x.heard(thing, sheet, laneOf[sheet], i, 8, 0));
            }
        }
    }

    /** One row a pair that may hold at once; each number that makes them so has its row further below. */
    private static void ofSeveralTheFirst() {
        DUE.sentence("Answers below 0, of several the first that a call names");
        refused("BAD, FULL: sleeper", RefusalsTest::full, x -> x.sleeper(4, 61), BAD);
        refused("BAD, FULL: thing", RefusalsTest::full, x -> x.thing(5, 10, 0, 4), BAD);
        refused("BAD, FULL: type", RefusalsTest::full, x -> x.type(127), BAD);
        refused("BAD, FULL: nights", RefusalsTest::late, x -> x.nights(41), BAD);
        refused("BAD, FULL: drift", RefusalsTest::late, x -> x.drift(41), BAD);
        refused("BAD, SIZE: sheet", x -> x.sheet(4, 4, -1), BAD);
        refused("BAD, NULL, INDEX: heard", x -> x.heard(5, 3, BYTES, -1, 9, 2), BAD);
        refused("BAD, CAST, INDEX: heard", x -> x.heard(5, 0, LONGS, -1, 9, 2), BAD);
        refused("NULL, INDEX: heard", x -> x.heard(0, 3, BYTES, -1, 8, 1), NULL);
        refused("CAST, INDEX: heard", x -> x.heard(0, 0, LONGS, -1, 8, 1), CAST);
        refused("BAD, NULL, INDEX: film", x -> x.film(5, 25, 3, BYTES, -1), BAD);
        refused("BAD, CAST, INDEX: film", x -> x.film(5, 25, 0, LONGS, -1), BAD);
        refused("NULL, INDEX: film", x -> x.film(0, 24, 3, BYTES, -1), NULL);
        refused("CAST, INDEX: film", x -> x.film(0, 24, 0, LONGS, -1), CAST);
        refused("BAD, NULL, INDEX: item", x -> x.item(3, 4, -1, 5), BAD);
        refused("NULL, INDEX: item", x -> x.item(3, BYTES, -1, 5), NULL);
        refused("CAST, INDEX: item", x -> x.item(0, LONGS, -1, 5), CAST);
        refused("BAD, NULL, INDEX: copy", x -> x.copy(3, -1, 4, -1, -1), BAD);
        refused("NULL, INDEX: copy", x -> x.copy(3, -1, 0, -1, -1), NULL);
        refused("CAST, INDEX: copy", x -> x.copy(0, -1, 1, -1, -1), CAST);
    }

    private static void butAsTold() {
        DUE.sentence("What is refused changes nothing, but as told.");
        ThankingGifts x = lived();
        DUE.is("a letter more, and it is no house", x.type('x'), 8);
        DUE.is("a fault", x.house(), -27);
        DUE.is("the tape is empty then", x.type('0'), 1);
        ThankingGifts untold = lived();
        DUE.is("no letter", untold.type(31), BAD);
        DUE.is("the tape is as it was", untold.house(), 2);
    }

    private static void newSleepers() {
        DUE.sentence("A SLEEPER: its number. BAD; FULL: 5.");
        for (int no : NO_ROOM) {
            refused("in room " + no, x -> x.sleeper(no, 5), BAD);
            refused("in room " + no + ", full", RefusalsTest::full, x -> x.sleeper(no, 5), BAD);
        }
        for (int no : new int[] {-1, 61, LOW, HIGH}) {
            refused("bears " + no, x -> x.sleeper(0, no), BAD);
            refused("bears " + no + ", full", RefusalsTest::full, x -> x.sleeper(0, no), BAD);
        }
        refused("a sixth", RefusalsTest::full, x -> x.sleeper(3, 60), FULL);
    }

    private static void newThings() {
        DUE.sentence("A THING: its number. BAD; FULL: 8.");
        for (int no : new int[] {-1, 5, LOW, HIGH}) {
            refused("kind " + no, x -> x.thing(no, 0, 1, 0), BAD);
            refused("kind " + no + ", full", RefusalsTest::full, x -> x.thing(no, 0, 1, 0), BAD);
        }
        for (int no : NO_GIVER) {
            refused("giver " + no, x -> x.thing(0, no, 1, 0), BAD);
            refused("giver " + no + ", full", RefusalsTest::full, x -> x.thing(0, no, 1, 0), BAD);
        }
        for (int no : new int[] {-1, 0, 10, LOW, HIGH}) {
            refused("dear by " + no, x -> x.thing(0, 0, no, 0), BAD);
            refused("dear by " + no + ", full", RefusalsTest::full, x -> x.thing(0, 0, no, 0), BAD);
        }
        for (int no : NO_ROOM) {
            refused("in room " + no, x -> x.thing(0, 0, 1, no), BAD);
            refused("in room " + no + ", full", RefusalsTest::full, x -> x.thing(0, 0, 1, no), BAD);
        }
        refused("a ninth", RefusalsTest::full, x -> x.thing(4, 9, 9, 3), FULL);
    }

    private static void ofSleepersThingsRooms() {
        DUE.sentence("4 whether it sleeps in this NIGHT (1, 0). BAD.");
        refusedOfEach(NO_SLEEPER, 4, ThankingGifts::of);
        DUE.sentence("4 LEFT, 5 how LOUD in this NIGHT. BAD.");
        refusedOfEach(NO_THING, 5, ThankingGifts::gift);
        DUE.sentence("which THINGS are in it (1, a set), which SLEEPERS (2, a set). BAD.");
        refusedOfEach(NO_ROOM, 2, ThankingGifts::room);
    }

    /** A call of a number and of what is asked of it, 0 .. most. */
    private interface Asking {
        int ask(ThankingGifts x, int number, int what);
    }

    private static void refusedOfEach(int[] noNumbers, int most, Asking call) {
        for (int no : noNumbers) {
            for (int what = 0; what <= most; what++) {
                int asked = what;
                refused("number " + no + ", what " + what, x -> call.ask(x, no, asked), BAD);
            }
        }
        for (int no : new int[] {-1, most + 1, LOW, HIGH}) {
            refused("what " + no, x -> call.ask(x, 0, no), BAD);
        }
    }

    private static void counts() {
        DUE.sentence("7 were WOKEN, 8 what may be UNDONE. BAD.");
        for (int no : new int[] {-1, 9, LOW, HIGH}) {
            refused("what " + no, x -> x.count(no), BAD);
        }
    }

    private static void beds() {
        DUE.sentence("A SLEEPER is in another ROOM (or the same): in which it was. BAD.");
        for (int no : NO_SLEEPER) {
            refused("of " + no, x -> x.bed(no, 0), BAD);
        }
        for (int no : NO_ROOM) {
            refused("in " + no, x -> x.bed(0, no), BAD);
        }
    }

    private static void letters() {
        DUE.sentence("One letter more behind THE TAPE: how many it has. BAD: not 32 .. 126; FULL: 80.");
        for (int no : new int[] {31, 127, -1, 0, 65536 + 48, LOW, HIGH}) {
            refused("letter " + no, x -> x.type(no), BAD);
            refused("letter " + no + ", full", RefusalsTest::full, x -> x.type(no), BAD);
        }
        refused("an 81st letter", RefusalsTest::full, x -> x.type('0'), FULL);
        refused("an 81st blank", RefusalsTest::full, x -> x.type(' '), FULL);
    }

    private static void faults() {
        DUE.sentence("A FAULT (all else stays).");
        String[] texts = {"", " ", "4", "0", "0:", "0:61", "0:1,", "0:1,1:1;p010,f12", "0:1;p010 0"};
        int[] places = {0, 1, 0, 1, 2, 2, 4, 16, 9};
        for (int i = 0; i < texts.length; i++) {
            String text = texts[i];
            refused("'" + text + "'", RefusalsTest::withoutTape, x -> Due.house(x, text), -20 - places[i]);
        }
    }

    /** A fault leaves THE TAPE empty, as told. */
    private static ThankingGifts withoutTape() {
        ThankingGifts x = lived();
        x.house();
        x.restore();
        x.nights(2);
        return x;
    }

    private static void nightsAndDrifts() {
        DUE.sentence("BAD; FULL: the NIGHT would be above 9999.");
        DUE.sentence("BAD; FULL: likewise.");
        for (int no : NOT_1_TO_40) {
            refused("nights " + no, x -> x.nights(no), BAD);
            refused("drift " + no, x -> x.drift(no), BAD);
            refused("nights " + no + ", late", RefusalsTest::late, x -> x.nights(no), BAD);
            refused("drift " + no + ", late", RefusalsTest::late, x -> x.drift(no), BAD);
        }
        for (int n : new int[] {2, 3, 40}) {
            refused("nights " + n + ", late", RefusalsTest::late, x -> x.nights(n), FULL);
            refused("drift " + n + ", late", RefusalsTest::late, x -> x.drift(n), FULL);
        }
    }

    private static void movedPassedGivenBack() {
        DUE.sentence("MOVED: in which ROOM it was. BAD; NOT: it is there.");
        for (int no : NO_THING) {
            refused("thing " + no, x -> x.move(no, 0), BAD);
        }
        for (int no : NO_ROOM) {
            refused("to " + no, x -> x.move(0, no), BAD);
        }
        refused("to where it is", x -> x.move(0, 2), NOT);
        DUE.sentence("PASSED: what was LEFT. BAD; NOT: it is of that GIVER.");
        for (int no : NO_THING) {
            refused("thing " + no, x -> x.pass(no, 0), BAD);
        }
        for (int no : NO_GIVER) {
            refused("to " + no, x -> x.pass(0, no), BAD);
        }
        refused("to whose it is", x -> x.pass(1, 7), NOT);
        DUE.sentence("GIVEN BACK: what was LEFT. BAD; NOT: nothing is.");
        for (int no : NO_THING) {
            refused("thing " + no, x -> x.back(no), BAD);
        }
        refused("nothing is left", x -> x.back(2), NOT);
    }

    private static void undoneAndSeeds() {
        DUE.sentence("UNDONE: how many more may be. NONE: none is known.");
        refused("none is known", () -> Due.houseOf("0:0;p010"), x -> x.undo(), NONE);
        DUE.sentence("THE DRAW becomes v: what it was. BAD: below 0.");
        for (int no : new int[] {-1, LOW, LOW + 1}) {
            refused("seed " + no, x -> x.seed(no), BAD);
        }
    }

    private static void foretold() {
        DUE.sentence("What is LEFT of a THING behind n NIGHTS. BAD.");
        for (int no : NO_THING) {
            refused("thing " + no, x -> x.ahead(no, 5), BAD);
        }
        DUE.sentence("How LOUD a ROOM is behind n NIGHTS. BAD.");
        for (int no : NO_ROOM) {
            refused("room " + no, x -> x.loudAhead(no, 5), BAD);
        }
        DUE.sentence("How often a SLEEPER SLEPT in the next n NIGHTS. BAD.");
        for (int no : NO_SLEEPER) {
            refused("sleeper " + no, x -> x.sleeps(no, 5), BAD);
        }
        DUE.sentence("behind n NIGHTS (0 .. 60)");
        for (int no : NOT_0_TO_60) {
            refused("ahead by " + no, x -> x.ahead(0, no), BAD);
            refused("loud ahead by " + no, x -> x.loudAhead(0, no), BAD);
            refused("sleeps by " + no, x -> x.sleeps(0, no), BAD);
        }
        DUE.sentence("PEACE; NONE.");
        refused("no peace", () -> Due.houseOf("0:0;f090"), x -> x.peace(), NONE);
    }

    private static void bestRooms() {
        DUE.sentence("BEST ROOM: which (what 0), how often (1). BAD.");
        for (int what = 0; what < 2; what++) {
            int asked = what;
            for (int no : NO_THING) {
                refused("thing " + no, x -> x.best(no, 5, asked), BAD);
            }
            for (int no : NOT_1_TO_40) {
                refused("for " + no, x -> x.best(0, no, asked), BAD);
            }
        }
        for (int no : NOT_0_OR_1) {
            refused("what " + no, x -> x.best(0, 5, no), BAD);
        }
    }

    private static void bestBeds() {
        DUE.sentence("BED: which (what 0), how often (1). BAD.");
        for (int what = 0; what < 2; what++) {
            int asked = what;
            for (int no : NO_SLEEPER) {
                refused("sleeper " + no, x -> x.bestBed(no, 5, asked), BAD);
            }
            for (int no : NOT_1_TO_40) {
                refused("for " + no, x -> x.bestBed(0, no, asked), BAD);
            }
        }
        for (int no : NOT_0_OR_1) {
            refused("what " + no, x -> x.bestBed(0, 5, no), BAD);
        }
    }

    private static void changes() {
        DUE.sentence("CHANGE (n 1 .. 40): 10 i and j (what 0), how often (1); NONE. BAD.");
        for (int what = 0; what < 2; what++) {
            int asked = what;
            for (int no : NOT_1_TO_40) {
                refused("for " + no, x -> x.change(no, asked), BAD);
            }
            refused("no pair", RefusalsTest::allAlike, x -> x.change(40, asked), NONE);
        }
        for (int no : NOT_0_OR_1) {
            refused("what " + no, x -> x.change(5, no), BAD);
            refused("what " + no + ", a choice of ours: nothing is asked, of no pair",
                    RefusalsTest::allAlike, x -> x.change(5, no), BAD);
        }
    }

    private static ThankingGifts allAlike() {
        return Due.houseOf("0:0,1:0,2:0,3:0;p010");
    }

    private static void backs() {
        DUE.sentence("BACK: how many (what 0), which (1); NONE. BAD.");
        for (int no : NOT_1_TO_40) {
            refused("for " + no, x -> x.backs(no, 0), BAD);
            refused("for " + no + ", which", x -> x.backs(no, 1), BAD);
        }
        for (int no : NOT_0_OR_1) {
            refused("what " + no, x -> x.backs(5, no), BAD);
        }
    }

    private static void lucks() {
        DUE.sentence("LUCK: above (what 0), below (1). BAD.");
        for (int what = 0; what < 2; what++) {
            int asked = what;
            for (int no : NO_SLEEPER) {
                refused("sleeper " + no, x -> x.luck(no, 5, asked), BAD);
            }
            for (int no : new int[] {-1, 11, LOW, HIGH}) {
                refused("by " + no, x -> x.luck(0, no, asked), BAD);
            }
        }
        for (int no : NOT_0_OR_1) {
            refused("what " + no, x -> x.luck(0, 5, no), BAD);
        }
    }

    private static void thanked() {
        DUE.sentence("THANKED. BAD.");
        for (int no : NO_GIVER) {
            refused("giver " + no, x -> x.thanked(no), BAD);
        }
    }

    private static void images() {
        DUE.sentence("All is as it was then: 1. NONE: there is none.");
        refused("no image", RefusalsTest::full, x -> x.restore(), NONE);
        refused("no image, nobody", ThankingGifts::new, x -> x.restore(), NONE);
    }

    /** Of each sheet, the one with nothing too, as of another lane and from -1 on: BAD comes ahead of all. */
    private static void heardBad() {
        DUE.sentence("KINDS (what 0), by how much DEAR (1). BAD; NULL; CAST; INDEX.");
        for (int sheet = 0; sheet < 4; sheet++) {
            int of = sheet;
            for (int no : NO_THING) {
                refused("thing " + no, x -> x.heard(no, of, INTS, -1, 1, 0), BAD);
            }
            for (int no : NO_LANE) {
                refused("lane " + no, x -> x.heard(0, of, no, -1, 1, 0), BAD);
            }
            for (int no : new int[] {0, -1, 9, LOW, HIGH}) {
                refused("for " + no, x -> x.heard(0, of, INTS, -1, no, 1), BAD);
            }
            for (int no : NOT_0_OR_1) {
                refused("what " + no, x -> x.heard(0, of, BYTES, 0, 1, no), BAD);
                refused("from -1, what " + no, x -> x.heard(0, of, BYTES, -1, 1, no), BAD);
            }
        }
        for (int no : NO_SHEET) {
            refused("sheet " + no, x -> x.heard(0, no, BYTES, 0, 1, 0), BAD);
            refused("sheet " + no + ", how dear", x -> x.heard(0, no, BYTES, -1, 1, 1), BAD);
        }
    }

    private static void heardOfTheMachine() {
        DUE.sentence("(NULL, CAST, INDEX, SIZE in this order)");
        for (int what = 0; what < 2; what++) {
            int asked = what;
            for (int no : NO_PLACE) {
                refused("of nothing", x -> x.heard(0, 3, BYTES, no, 1, asked), NULL);
                refused("of another lane", x -> x.heard(0, 0, LONGS, no, 1, asked), CAST);
                refused("from " + no, x -> x.heard(0, 0, BYTES, no, 8, asked), INDEX);
            }
        }
    }

    private static void films() {
        DUE.sentence("comes to a SHEET likewise: n. BAD; NULL; CAST; INDEX.");
        for (int sheet = 0; sheet < 4; sheet++) {
            int to = sheet;
            for (int no : NO_THING) {
                refused("thing " + no, x -> x.film(no, 1, to, INTS, -1), BAD);
            }
            for (int no : new int[] {0, -1, 25, LOW, HIGH}) {
                refused("for " + no, x -> x.film(0, no, to, INTS, -1), BAD);
            }
            for (int no : NO_LANE) {
                refused("lane " + no, x -> x.film(0, 1, to, no, -1), BAD);
            }
        }
        for (int no : NO_SHEET) {
            refused("sheet " + no, x -> x.film(0, 1, no, BYTES, 0), BAD);
        }
        for (int no : NO_PLACE) {
            refused("to nothing", x -> x.film(0, 1, 3, BYTES, no), NULL);
            refused("to another lane", x -> x.film(0, 1, 0, LONGS, no), CAST);
            refused("from " + no + " on", x -> x.film(0, 1, 0, BYTES, no), INDEX);
            refused("24 from " + no + " on", x -> x.film(0, 24, 0, BYTES, no), INDEX);
        }
        refused("24 from 1 on", x -> x.film(0, 24, 0, BYTES, 1), INDEX);
        refused("9 to 8", x -> x.film(0, 9, 1, LONGS, 0), INDEX);
        refused("1 to none", x -> x.film(0, 1, 2, INTS, 0), INDEX);
    }

    private static void sheets() {
        DUE.sentence("A SHEET holds a new row of a LANE: n. BAD: also n above 24; SIZE: n below 0.");
        for (int no : NO_SHEET) {
            refused("sheet " + no, x -> x.sheet(no, BYTES, 1), BAD);
            refused("sheet " + no + " of -1", x -> x.sheet(no, BYTES, -1), BAD);
        }
        for (int sheet = 0; sheet < 4; sheet++) {
            int of = sheet;
            for (int no : NO_LANE) {
                refused("lane " + no, x -> x.sheet(of, no, 1), BAD);
                refused("lane " + no + " of -1", x -> x.sheet(of, no, -1), BAD);
            }
            for (int no : new int[] {25, HIGH}) {
                refused("of " + no, x -> x.sheet(of, BYTES, no), BAD);
            }
            for (int no : new int[] {-1, LOW}) {
                refused("of " + no, x -> x.sheet(of, BYTES, no), SIZE);
            }
        }
        DUE.sentence("A SHEET holds nothing: how many items it had. BAD; NULL.");
        for (int no : NO_SHEET) {
            refused("sheet " + no, x -> x.drop(no), BAD);
        }
        refused("of nothing", x -> x.drop(3), NULL);
    }

    private static void items() {
        DUE.sentence("becomes v, its lowest bits: 1. BAD; NULL; CAST; INDEX.");
        for (int no : NO_SHEET) {
            refused("sheet " + no, x -> x.item(no, BYTES, 0, 5), BAD);
        }
        for (int sheet = 0; sheet < 4; sheet++) {
            int of = sheet;
            for (int no : NO_LANE) {
                refused("lane " + no, x -> x.item(of, no, -1, 5), BAD);
            }
        }
        for (int no : NO_PLACE) {
            refused("of nothing", x -> x.item(3, BYTES, no, 5), NULL);
            refused("of another lane", x -> x.item(0, LONGS, no, 5), CAST);
            refused("item " + no, x -> x.item(0, BYTES, no, 5), INDEX);
        }
        refused("item 0 of another lane", x -> x.item(1, INTS, 0, 5), CAST);
        refused("item 8 of 8", x -> x.item(1, LONGS, 8, 5), INDEX);
        refused("item 0 of none", x -> x.item(2, INTS, 0, 5), INDEX);
    }

    private static void copies() {
        DUE.sentence("BAD; NULL (either); CAST: of unlike LANES; INDEX.");
        for (int no : NO_SHEET) {
            for (int sheet = 0; sheet < 4; sheet++) {
                int other = sheet;
                refused("from sheet " + no, x -> x.copy(no, -1, other, 0, 1), BAD);
                refused("to sheet " + no, x -> x.copy(other, -1, no, 0, 1), BAD);
            }
        }
        for (int no : NO_PLACE) {
            for (int sheet = 0; sheet < 3; sheet++) {
                int other = sheet;
                refused("from nothing", x -> x.copy(3, no, other, 0, 1), NULL);
                refused("to nothing", x -> x.copy(other, no, 3, 0, 1), NULL);
            }
            refused("of nothing to nothing", x -> x.copy(3, no, 3, no, 1), NULL);
            refused("of unlike lanes", x -> x.copy(0, no, 1, 0, 1), CAST);
            refused("to unlike lanes", x -> x.copy(1, 0, 0, no, 1), CAST);
            refused("from " + no + " on", x -> x.copy(0, no, 0, 0, 1), INDEX);
            refused("to " + no, x -> x.copy(0, 0, 0, no, 1), INDEX);
        }
        for (int no : new int[] {-1, 25, LOW, HIGH}) {
            refused("of " + no, x -> x.copy(0, 0, 0, 0, no), INDEX);
        }
        refused("of 24 by one up", x -> x.copy(0, 0, 0, 1, 24), INDEX);
        refused("of 24 by one down", x -> x.copy(0, 1, 0, 0, 24), INDEX);
    }

    private static void ofANewObject() {
        DUE.sentence("BAD -1 (a number is not as told, there is no such thing)");
        Supplier<ThankingGifts> fresh = ThankingGifts::new;
        refused("of", fresh, x -> x.of(0, 0), BAD);
        refused("gift", fresh, x -> x.gift(0, 0), BAD);
        refused("bed", fresh, x -> x.bed(0, 0), BAD);
        refused("house", fresh, x -> x.house(), -20);
        refused("move", fresh, x -> x.move(0, 0), BAD);
        refused("pass", fresh, x -> x.pass(0, 0), BAD);
        refused("back", fresh, x -> x.back(0), BAD);
        refused("undo", fresh, x -> x.undo(), NONE);
        refused("ahead", fresh, x -> x.ahead(0, 0), BAD);
        refused("sleeps", fresh, x -> x.sleeps(0, 0), BAD);
        refused("best", fresh, x -> x.best(0, 1, 0), BAD);
        refused("best bed", fresh, x -> x.bestBed(0, 1, 0), BAD);
        refused("change", fresh, x -> x.change(1, 0), NONE);
        refused("luck", fresh, x -> x.luck(0, 0, 0), BAD);
        refused("heard", fresh, x -> x.heard(0, 0, 0, 0, 1, 0), BAD);
        refused("film", fresh, x -> x.film(0, 1, 0, 0, 0), BAD);
        refused("drop", fresh, x -> x.drop(0), NULL);
        refused("item", fresh, x -> x.item(0, 0, 0, 0), NULL);
        refused("copy", fresh, x -> x.copy(0, 0, 0, 0, 0), NULL);
    }

    private static void askingChangesNothing() {
        DUE.sentence("FORETOLD from now (nothing is changed)");
        List<ToIntFunction<ThankingGifts>> calls = List.of(x -> x.of(0, 4), x -> x.gift(0, 5), x -> x.room(0, 0),
                x -> x.count(4), x -> x.ahead(0, 60), x -> x.loudAhead(0, 60), x -> x.sleeps(0, 60), x -> x.peace(),
                x -> x.best(0, 40, 0), x -> x.best(4, 40, 1), x -> x.bestBed(0, 40, 0), x -> x.bestBed(2, 40, 1),
                x -> x.change(40, 0), x -> x.change(40, 1), x -> x.backs(40, 0), x -> x.backs(40, 1),
                x -> x.luck(0, 5, 0), x -> x.luck(2, 5, 1), x -> x.thanked(5),
                x -> x.heard(0, 0, BYTES, 0, 8, 0), x -> x.heard(0, 0, BYTES, 16, 8, 1));
        for (int i = 0; i < calls.size(); i++) {
            int answer = calls.get(i).applyAsInt(lived());
            refused("asking " + i, calls.get(i), answer);
        }
    }
}
