import java.util.ArrayList;
import java.util.List;
import java.util.function.Supplier;
import java.util.function.ToIntFunction;

/**
 * Each refusal that a call names, which of several is given, and that it changes nothing: of two objects
 * that were made alike one is refused the call, then all that calls can tell is the same of both.
 */
public final class RefusalsTest {
    private static final int BAD = -1, NOT = -2, FULL = -3, NONE = -4, NULL = -11, CAST = -12, INDEX = -13, SIZE = -14;
    private static final int LOW = Integer.MIN_VALUE, HIGH = Integer.MAX_VALUE;
    private static final int[] NO_ROOM = {-1, 4, LOW, HIGH}, NO_SLEEPER = {-1, 3, 4, 5, LOW, HIGH};
    private static final int[] NO_THING = {-1, 5, 7, 8, LOW, HIGH}, NO_GIVER = {-1, 10, LOW, HIGH};
    private static final int[] NO_SHEET = {-1, 4, LOW, HIGH}, NO_LANE = {-1, 4, LOW, HIGH};
    private static final int[] NO_PLACE = {-1, 24, 25, LOW, HIGH}, NOT_0_OR_1 = {-1, 2, LOW, HIGH};
    private static final int[] NOT_1_TO_40 = {0, -1, 41, LOW, HIGH}, NOT_0_TO_60 = {-1, 61, LOW, HIGH};
    private static final int BYTES = 0, INTS = 2, LONGS = 3;
    private static final Due DUE = new Due();

    public static void main(String[] args) {
        DUE.sentence("What is refused changes nothing, but as told.");
        sleepersAndThings();
        whatIsAsked();
        bedAndTape();
        whatIsDone();
        foretold();
        hadBetter();
        lucky();
        images();
        heard();
        film();
        sheets();
        items();
        copies();
        ofANewObject();
        DUE.sentence("FORETOLD from now (nothing is changed)");
        askingChangesNothing();
        DUE.close("RefusalsTest");
    }

    /** Three sleepers, five things; sheets 0 (24 bytes), 1 (8 longs), 2 (no ints); a tape that is a house. */
    private static ThankingGifts lived() {
        ThankingGifts x = Due.houseOf("1:9,2:0,1:30;p151,f240,c382,t493,h511");
        x.seed(77);
        x.drift(2);
        x.image();
        x.nights(4);
        x.move(0, 3);
        x.move(0, 2);
        x.pass(1, 7);
        x.back(2);
        x.sheet(0, BYTES, 24);
        x.film(1, 24, 0, BYTES, 0);
        x.sheet(1, LONGS, 8);
        x.film(3, 8, 1, LONGS, 0);
        x.sheet(2, INTS, 0);
        Due.type(x, "2:7,1:1");
        return x;
    }

    /** Five sleepers, eight things, 80 letters. */
    private static ThankingGifts full() {
        ThankingGifts x = Due.houseOf("0:0,1:9,2:9,3:9,0:9;p010,f020,c030,t040,h051,p061,f071,c082");
        x.nights(3);
        x.move(7, 3);
        Due.type(x, "2:7,1:1" + " ".repeat(73));
        return x;
    }

    /** Night 9998. */
    private static ThankingGifts late() {
        ThankingGifts x = Due.houseInNight("0:0,1:9;p010,f020", 9997);
        x.pass(1, 5);
        x.nights(1);
        return x;
    }

    private static void refused(String label, Supplier<ThankingGifts> made, ToIntFunction<ThankingGifts> call, int want) {
        ThankingGifts refusing = made.get();
        DUE.is(label, call.applyAsInt(refusing), want);
        List<Integer> all = allOf(refusing);
        List<Integer> due = allOf(made.get());
        DUE.isTrue(label + " changes nothing: " + all + " is " + due, all.equals(due));
    }

    private static void refused(String label, ToIntFunction<ThankingGifts> call, int want) {
        refused(label, RefusalsTest::lived, call, want);
    }

    /** All that calls can tell; what tells it by changing it comes last. */
    private static List<Integer> allOf(ThankingGifts x) {
        List<Integer> all = new ArrayList<>();
        tellHouse(x, all);
        int draw = x.seed(0);
        all.add(draw);
        x.seed(draw);
        tellSheets(x, all);
        int known = x.count(8);
        for (int i = 0; i <= known; i++) {
            all.add(x.undo());
            tellMoment(x, all);
        }
        all.add(x.restore());
        tellMoment(x, all);
        all.add(x.undo());
        tellMoment(x, all);
        all.add(x.type(' '));
        all.add(x.house());
        tellMoment(x, all);
        for (int sheet = 0; sheet < 4; sheet++) {
            all.add(x.drop(sheet));
        }
        return all;
    }

    private static void tellHouse(ThankingGifts x, List<Integer> all) {
        for (int what = 0; what <= 8; what++) {
            all.add(x.count(what));
        }
        for (int s = 0; s < x.count(0); s++) {
            for (int what = 0; what <= 3; what++) {
                all.add(x.of(s, what));
            }
        }
        for (int t = 0; t < x.count(1); t++) {
            for (int what = 0; what <= 4; what++) {
                all.add(x.gift(t, what));
            }
        }
    }

    private static void tellMoment(ThankingGifts x, List<Integer> all) {
        all.add(x.count(2));
        all.add(x.count(3));
        all.add(x.count(7));
        all.add(x.room(2, 1));
        all.add(x.room(3, 1));
        all.add(x.room(1, 2));
    }

    private static void tellSheets(ThankingGifts x, List<Integer> all) {
        int[] laneOf = {BYTES, LONGS, INTS, BYTES};
        for (int sheet = 0; sheet < 4; sheet++) {
            int thing = sheet == 1 ? 3 : 1;
            for (int i = 0; i < 24; i += sheet == 0 ? 8 : 24) {
                all.add(x.heard(thing, sheet, laneOf[sheet], i, 1, 0));
                all.add(x.heard(thing, sheet, laneOf[sheet], i, 8, 0));
            }
        }
    }

    private static void sleepersAndThings() {
        for (int no : NO_ROOM) {
            refused("sleeper in room " + no, x -> x.sleeper(no, 5), BAD);
            refused("thing in room " + no, x -> x.thing(0, 0, 1, no), BAD);
            refused("sleeper in room " + no + ", full", RefusalsTest::full, x -> x.sleeper(no, 5), BAD);
            refused("thing in room " + no + ", full", RefusalsTest::full, x -> x.thing(0, 0, 1, no), BAD);
        }
        for (int no : new int[] {-1, 61, LOW, HIGH}) {
            refused("sleeper bears " + no, x -> x.sleeper(0, no), BAD);
            refused("sleeper bears " + no + ", full", RefusalsTest::full, x -> x.sleeper(0, no), BAD);
        }
        for (int no : new int[] {-1, 5, LOW, HIGH}) {
            refused("kind " + no, x -> x.thing(no, 0, 1, 0), BAD);
            refused("kind " + no + ", full", RefusalsTest::full, x -> x.thing(no, 0, 1, 0), BAD);
        }
        for (int no : NO_GIVER) {
            refused("giver " + no, x -> x.thing(0, no, 1, 0), BAD);
            refused("giver " + no + ", full", RefusalsTest::full, x -> x.thing(0, no, 1, 0), BAD);
        }
        for (int no : new int[] {-1, 0, 10, LOW, HIGH}) {
            refused("dear by " + no, x -> x.thing(0, 0, no, 0), BAD);
            refused("dear by " + no + ", full", RefusalsTest::full, x -> x.thing(0, 0, no, 0), BAD);
        }
        refused("a sixth sleeper", RefusalsTest::full, x -> x.sleeper(3, 60), FULL);
        refused("a ninth thing", RefusalsTest::full, x -> x.thing(4, 9, 9, 3), FULL);
    }

    private static void whatIsAsked() {
        for (int no : NO_SLEEPER) {
            for (int what = 0; what <= 4; what++) {
                int asked = what;
                refused("of " + no, x -> x.of(no, asked), BAD);
            }
        }
        for (int no : NO_THING) {
            for (int what = 0; what <= 5; what++) {
                int asked = what;
                refused("gift " + no, x -> x.gift(no, asked), BAD);
            }
        }
        for (int no : NO_ROOM) {
            for (int what = 0; what <= 2; what++) {
                int asked = what;
                refused("room " + no, x -> x.room(no, asked), BAD);
            }
        }
        for (int no : new int[] {-1, 5, LOW, HIGH}) {
            refused("of, what " + no, x -> x.of(0, no), BAD);
        }
        for (int no : new int[] {-1, 6, LOW, HIGH}) {
            refused("gift, what " + no, x -> x.gift(0, no), BAD);
        }
        for (int no : new int[] {-1, 3, LOW, HIGH}) {
            refused("room, what " + no, x -> x.room(0, no), BAD);
        }
        for (int no : new int[] {-1, 9, LOW, HIGH}) {
            refused("count, what " + no, x -> x.count(no), BAD);
        }
    }

    private static void bedAndTape() {
        for (int no : NO_SLEEPER) {
            refused("bed of " + no, x -> x.bed(no, 0), BAD);
        }
        for (int no : NO_ROOM) {
            refused("bed in " + no, x -> x.bed(0, no), BAD);
        }
        for (int no : new int[] {31, 127, -1, 0, 65536 + 48, LOW, HIGH}) {
            refused("letter " + no, x -> x.type(no), BAD);
            refused("letter " + no + ", full", RefusalsTest::full, x -> x.type(no), BAD);
        }
        refused("an 81st letter", RefusalsTest::full, x -> x.type('0'), FULL);
        refused("an 81st blank", RefusalsTest::full, x -> x.type(' '), FULL);
        for (String text : new String[] {"", " ", "4", "0", "0:", "0:61", "0:1,", "0:1,1:1;p010,f12", "0:1;p010 0"}) {
            int fault = Due.house(new ThankingGifts(), text);
            DUE.isTrue("a fault: " + text, fault <= -20);
            refused("fault of '" + text + "'", RefusalsTest::withoutTape, x -> Due.house(x, text), fault);
        }
    }

    /** A fault leaves THE TAPE empty, as told. */
    private static ThankingGifts withoutTape() {
        ThankingGifts x = lived();
        x.house();
        x.restore();
        x.nights(2);
        return x;
    }

    private static void whatIsDone() {
        for (int no : NOT_1_TO_40) {
            refused("nights " + no, x -> x.nights(no), BAD);
            refused("drift " + no, x -> x.drift(no), BAD);
            refused("nights " + no + ", late", RefusalsTest::late, x -> x.nights(no), BAD);
            refused("drift " + no + ", late", RefusalsTest::late, x -> x.drift(no), BAD);
        }
        for (int n : new int[] {2, 3, 40}) {
            refused("nights " + n + ", late", RefusalsTest::late, x -> x.nights(n), FULL);
            refused("drift " + n + ", late", RefusalsTest::late, x -> x.drift(n), FULL);
        }
        for (int no : NO_THING) {
            refused("move " + no, x -> x.move(no, 0), BAD);
            refused("pass " + no, x -> x.pass(no, 0), BAD);
            refused("back " + no, x -> x.back(no), BAD);
        }
        for (int no : NO_ROOM) {
            refused("move to " + no, x -> x.move(0, no), BAD);
        }
        for (int no : NO_GIVER) {
            refused("pass to " + no, x -> x.pass(0, no), BAD);
        }
        refused("move to where it is", x -> x.move(0, 2), NOT);
        refused("pass to whose it is", x -> x.pass(1, 7), NOT);
        refused("back, nothing left", x -> x.back(2), NOT);
        for (int no : new int[] {-1, LOW, LOW + 1}) {
            refused("seed " + no, x -> x.seed(no), BAD);
        }
        refused("undo of none", () -> Due.houseOf("0:0;p010"), x -> x.undo(), NONE);
    }

    private static void foretold() {
        for (int no : NO_THING) {
            refused("ahead of " + no, x -> x.ahead(no, 5), BAD);
        }
        for (int no : NO_ROOM) {
            refused("loud ahead in " + no, x -> x.loudAhead(no, 5), BAD);
        }
        for (int no : NO_SLEEPER) {
            refused("sleeps " + no, x -> x.sleeps(no, 5), BAD);
        }
        for (int no : NOT_0_TO_60) {
            refused("ahead by " + no, x -> x.ahead(0, no), BAD);
            refused("loud ahead by " + no, x -> x.loudAhead(0, no), BAD);
            refused("sleeps by " + no, x -> x.sleeps(0, no), BAD);
        }
        refused("no peace", () -> Due.houseOf("0:0;f090"), x -> x.peace(), NONE);
    }

    private static void hadBetter() {
        for (int what = 0; what < 2; what++) {
            int asked = what;
            for (int no : NO_THING) {
                refused("best of " + no, x -> x.best(no, 5, asked), BAD);
            }
            for (int no : NO_SLEEPER) {
                refused("best bed of " + no, x -> x.bestBed(no, 5, asked), BAD);
            }
            for (int no : NOT_1_TO_40) {
                refused("best for " + no, x -> x.best(0, no, asked), BAD);
                refused("best bed for " + no, x -> x.bestBed(0, no, asked), BAD);
                refused("change for " + no, x -> x.change(no, asked), BAD);
                refused("backs for " + no, x -> x.backs(no, asked), BAD);
            }
            refused("no change", () -> Due.houseOf("0:0,1:0,2:0,3:0;p010"), x -> x.change(40, asked), NONE);
        }
        for (int no : NOT_0_OR_1) {
            refused("best, what " + no, x -> x.best(0, 5, no), BAD);
            refused("best bed, what " + no, x -> x.bestBed(0, 5, no), BAD);
            refused("change, what " + no, x -> x.change(5, no), BAD);
            refused("backs, what " + no, x -> x.backs(5, no), BAD);
        }
    }

    private static void lucky() {
        for (int what = 0; what < 2; what++) {
            int asked = what;
            for (int no : NO_SLEEPER) {
                refused("luck of " + no, x -> x.luck(no, 5, asked), BAD);
            }
            for (int no : new int[] {-1, 11, LOW, HIGH}) {
                refused("luck by " + no, x -> x.luck(0, no, asked), BAD);
            }
        }
        for (int no : NOT_0_OR_1) {
            refused("luck, what " + no, x -> x.luck(0, 5, no), BAD);
        }
        for (int no : NO_GIVER) {
            refused("thanked " + no, x -> x.thanked(no), BAD);
        }
    }

    private static void images() {
        refused("no image", RefusalsTest::full, x -> x.restore(), NONE);
        refused("no image, nobody", ThankingGifts::new, x -> x.restore(), NONE);
    }

    private static void heard() {
        for (int what = 0; what < 2; what++) {
            int asked = what;
            for (int sheet = 0; sheet < 4; sheet++) {
                int of = sheet;
                for (int no : NO_THING) {
                    refused("heard of " + no, x -> x.heard(no, of, INTS, -1, 1, asked), BAD);
                }
                for (int no : NO_LANE) {
                    refused("heard, lane " + no, x -> x.heard(0, of, no, -1, 1, asked), BAD);
                }
                for (int no : new int[] {0, -1, 9, LOW, HIGH}) {
                    refused("heard for " + no, x -> x.heard(0, of, INTS, -1, no, asked), BAD);
                }
            }
            for (int no : NO_SHEET) {
                refused("heard of sheet " + no, x -> x.heard(0, no, BYTES, 0, 1, asked), BAD);
            }
            for (int no : NO_PLACE) {
                refused("heard of nothing", x -> x.heard(0, 3, BYTES, no, 1, asked), NULL);
                refused("heard of another lane", x -> x.heard(0, 0, LONGS, no, 1, asked), CAST);
                refused("heard from " + no, x -> x.heard(0, 0, BYTES, no, 8, asked), INDEX);
            }
        }
        for (int no : NOT_0_OR_1) {
            refused("heard, what " + no, x -> x.heard(0, 0, BYTES, 0, 1, no), BAD);
            refused("heard of nothing, what " + no, x -> x.heard(0, 3, BYTES, 0, 1, no), BAD);
            refused("heard of another lane, what " + no, x -> x.heard(0, 0, LONGS, 0, 1, no), BAD);
            refused("heard from -1, what " + no, x -> x.heard(0, 0, BYTES, -1, 1, no), BAD);
        }
    }

    private static void film() {
        for (int sheet = 0; sheet < 4; sheet++) {
            int to = sheet;
            for (int no : NO_THING) {
                refused("film of " + no, x -> x.film(no, 1, to, INTS, -1), BAD);
            }
            for (int no : new int[] {0, -1, 25, LOW, HIGH}) {
                refused("film for " + no, x -> x.film(0, no, to, INTS, -1), BAD);
            }
            for (int no : NO_LANE) {
                refused("film, lane " + no, x -> x.film(0, 1, to, no, -1), BAD);
            }
        }
        for (int no : NO_SHEET) {
            refused("film to sheet " + no, x -> x.film(0, 1, no, BYTES, 0), BAD);
        }
        for (int no : NO_PLACE) {
            refused("film to nothing", x -> x.film(0, 1, 3, BYTES, no), NULL);
            refused("film to another lane", x -> x.film(0, 1, 0, LONGS, no), CAST);
            refused("film to " + no, x -> x.film(0, 1, 0, BYTES, no), INDEX);
            refused("film of 24 to " + no, x -> x.film(0, 24, 0, BYTES, no), INDEX);
        }
        refused("film of 24 from 1 on", x -> x.film(0, 24, 0, BYTES, 1), INDEX);
        refused("film of 9 to 8", x -> x.film(0, 9, 1, LONGS, 0), INDEX);
        refused("film to none", x -> x.film(0, 1, 2, INTS, 0), INDEX);
    }

    private static void sheets() {
        for (int no : NO_SHEET) {
            refused("sheet " + no, x -> x.sheet(no, BYTES, 1), BAD);
            refused("sheet " + no + " of -1", x -> x.sheet(no, BYTES, -1), BAD);
            refused("drop " + no, x -> x.drop(no), BAD);
        }
        for (int sheet = 0; sheet < 4; sheet++) {
            int of = sheet;
            for (int no : NO_LANE) {
                refused("sheet, lane " + no, x -> x.sheet(of, no, 1), BAD);
                refused("sheet, lane " + no + " of -1", x -> x.sheet(of, no, -1), BAD);
            }
            for (int no : new int[] {25, HIGH}) {
                refused("sheet of " + no, x -> x.sheet(of, BYTES, no), BAD);
            }
            for (int no : new int[] {-1, LOW}) {
                refused("sheet of " + no, x -> x.sheet(of, BYTES, no), SIZE);
            }
        }
        refused("drop of nothing", x -> x.drop(3), NULL);
    }

    private static void items() {
        for (int no : NO_SHEET) {
            refused("item of sheet " + no, x -> x.item(no, BYTES, 0, 5), BAD);
        }
        for (int sheet = 0; sheet < 4; sheet++) {
            int of = sheet;
            for (int no : NO_LANE) {
                refused("item, lane " + no, x -> x.item(of, no, -1, 5), BAD);
            }
        }
        for (int no : NO_PLACE) {
            refused("item of nothing", x -> x.item(3, BYTES, no, 5), NULL);
            refused("item of another lane", x -> x.item(0, LONGS, no, 5), CAST);
            refused("item " + no, x -> x.item(0, BYTES, no, 5), INDEX);
        }
        refused("item 0 of another lane", x -> x.item(1, INTS, 0, 5), CAST);
        refused("item 8 of 8", x -> x.item(1, LONGS, 8, 5), INDEX);
        refused("item 0 of none", x -> x.item(2, INTS, 0, 5), INDEX);
    }

    private static void copies() {
        for (int no : NO_SHEET) {
            for (int sheet = 0; sheet < 4; sheet++) {
                int other = sheet;
                refused("copy from sheet " + no, x -> x.copy(no, -1, other, 0, 1), BAD);
                refused("copy to sheet " + no, x -> x.copy(other, -1, no, 0, 1), BAD);
            }
        }
        for (int no : NO_PLACE) {
            refused("copy from nothing", x -> x.copy(3, no, 0, 0, 1), NULL);
            refused("copy to nothing", x -> x.copy(0, no, 3, 0, 1), NULL);
            refused("copy of nothing to nothing", x -> x.copy(3, no, 3, no, 1), NULL);
            refused("copy of unlike lanes", x -> x.copy(0, no, 1, 0, 1), CAST);
            refused("copy to unlike lanes", x -> x.copy(1, 0, 0, no, 1), CAST);
            refused("copy from " + no, x -> x.copy(0, no, 0, 0, 1), INDEX);
            refused("copy to " + no, x -> x.copy(0, 0, 0, no, 1), INDEX);
        }
        for (int no : new int[] {-1, 25, LOW, HIGH}) {
            refused("copy of " + no, x -> x.copy(0, 0, 0, 0, no), INDEX);
        }
        refused("copy of 24 by one up", x -> x.copy(0, 0, 0, 1, 24), INDEX);
        refused("copy of 24 by one down", x -> x.copy(0, 1, 0, 0, 24), INDEX);
    }

    private static void ofANewObject() {
        DUE.sentence("BAD -1 (a number is not as told, there is no such thing)");
        Supplier<ThankingGifts> fresh = ThankingGifts::new;
        refused("of", fresh, x -> x.of(0, 0), BAD);
        refused("gift", fresh, x -> x.gift(0, 0), BAD);
        refused("bed", fresh, x -> x.bed(0, 0), BAD);
        refused("house", fresh, x -> x.house(), -20);
        refused("move", fresh, x -> x.move(0, 0), BAD);
        refused("pass", fresh, x -> x.pass(0, 0), BAD);
        refused("back", fresh, x -> x.back(0), BAD);
        refused("undo", fresh, x -> x.undo(), NONE);
        refused("ahead", fresh, x -> x.ahead(0, 0), BAD);
        refused("sleeps", fresh, x -> x.sleeps(0, 0), BAD);
        refused("best", fresh, x -> x.best(0, 1, 0), BAD);
        refused("best bed", fresh, x -> x.bestBed(0, 1, 0), BAD);
        refused("change", fresh, x -> x.change(1, 0), NONE);
        refused("luck", fresh, x -> x.luck(0, 0, 0), BAD);
        refused("heard", fresh, x -> x.heard(0, 0, 0, 0, 1, 0), BAD);
        refused("film", fresh, x -> x.film(0, 1, 0, 0, 0), BAD);
        refused("drop", fresh, x -> x.drop(0), NULL);
        refused("item", fresh, x -> x.item(0, 0, 0, 0), NULL);
        refused("copy", fresh, x -> x.copy(0, 0, 0, 0, 0), NULL);
    }

    private static void askingChangesNothing() {
        List<ToIntFunction<ThankingGifts>> calls = List.of(x -> x.of(0, 4), x -> x.gift(0, 5), x -> x.room(0, 0),
                x -> x.count(4), x -> x.ahead(0, 60), x -> x.loudAhead(0, 60), x -> x.sleeps(0, 60), x -> x.peace(),
                x -> x.best(0, 40, 0), x -> x.best(4, 40, 1), x -> x.bestBed(0, 40, 0), x -> x.bestBed(2, 40, 1),
                x -> x.change(40, 0), x -> x.change(40, 1), x -> x.backs(40, 0), x -> x.backs(40, 1),
                x -> x.luck(0, 5, 0), x -> x.luck(2, 5, 1), x -> x.thanked(5),
                x -> x.heard(0, 0, BYTES, 0, 8, 0), x -> x.heard(0, 0, BYTES, 16, 8, 1));
        for (int i = 0; i < calls.size(); i++) {
            int answer = calls.get(i).applyAsInt(lived());
            refused("asking " + i, calls.get(i), answer);
        }
    }
}
