/** The boundary cases of the document's passage 3 on what is UNDONE and DRIFTS, and of images. */
public final class UndoneEdgesTest {
    private static final int BAD = -1, NOT = -2, NONE = -4;
    private static final Due DUE = new Due();

    public static void main(String[] args) {
        noneIsKnown();
        eightAreKnown();
        olderOnesAreLost();
        knownAgain();
        eachOneStep();
        noStep();
        asAheadOfIt();
        bedsStay();
        leaveNothing();
        drawAtFirst();
        drawOf31Bits();
        drawAheadOfEachNight();
        movedByDraw();
        movedAmongThings();
        movedAheadOfTheNight();
        driftUndone();
        drawOfNothing();
        image();
        imageOfUndos();
        imageOfOtherUndos();
        imageOfANewOne();
        DUE.close("UndoneEdgesTest");
    }

    private static void due(String call, long got, long want) {
        DUE.is(call, got, want);
    }

    private static void noneIsKnown() {
        DUE.sentence("UNDONE: how many more may be. NONE: none is known.");
        ThankingGifts x = new ThankingGifts();
        due("of a new one", x.undo(), NONE);
        x.nights(1);
        due("the one", x.undo(), 0);
        due("no more", x.undo(), NONE);
        due("night 0", x.count(2), 0);
        due("not below none", x.count(8), 0);
    }

    private static void eightAreKnown() {
        DUE.sentence("(8 are known, older ones lost)");
        for (int n : new int[] {1, 7, 8, 9, 16, 17, 40}) {
            ThankingGifts x = Due.houseOf("0:0;f090");
            x.nights(n);
            int known = Math.min(n, 8);
            due("behind " + n, x.count(8), known);
            for (int more = known - 1; more >= 0; more--) {
                due("undone, behind " + n, x.undo(), more);
                due("left, behind " + n, x.gift(0, 4), 90 - (n - known + more));
                due("woken, behind " + n, x.of(0, 3), n - known + more);
            }
            due("older ones, behind " + n, x.undo(), NONE);
            due("night, behind " + n, x.count(2), n - known);
        }
    }

    private static void olderOnesAreLost() {
        ThankingGifts x = Due.houseOf("0:0;p090");
        x.move(0, 1);
        x.pass(0, 3);
        x.nights(6);
        due("eight", x.count(8), 8);
        x.back(0);
        due("the ninth", x.count(8), 8);
        for (int more = 7; more >= 0; more--) {
            due("undone", x.undo(), more);
        }
        due("none more", x.undo(), NONE);
        due("of the giver it was", x.gift(0, 1), 0);
        due("but moved still", x.gift(0, 3), 1);
    }

    private static void knownAgain() {
        ThankingGifts x = new ThankingGifts();
        x.nights(8);
        for (int i = 0; i < 3; i++) {
            x.undo();
        }
        due("five", x.count(8), 5);
        x.nights(3);
        due("eight again", x.count(8), 8);
        x.nights(2);
        due("eight at most", x.count(8), 8);
        for (int night = 9; night >= 2; night--) {
            x.undo();
            due("night", x.count(2), night);
        }
        due("none more", x.undo(), NONE);
        x.nights(1);
        due("one anew", x.undo(), 0);
        due("night 2", x.count(2), 2);
    }

    private static void eachOneStep() {
        DUE.sentence("UNDONE: the latest NIGHT (each by itself; in a DRIFT with what was MOVED ahead of it), MOVED,"
                + " PASSED, GIVEN BACK is as it had not been");
        ThankingGifts x = Due.houseOf("0:0;p090");
        x.move(0, 1);
        due("moved", x.count(8), 1);
        x.pass(0, 1);
        due("passed", x.count(8), 2);
        x.back(0);
        due("given back", x.count(8), 3);
        x.nights(2);
        due("two nights", x.count(8), 5);
        x.seed(324582915);
        x.drift(1);
        due("moved by the draw", x.gift(0, 3), 3);
        due("a night of a drift with it", x.count(8), 6);
        x.drift(2);
        due("two nights of a drift", x.count(8), 8);
    }

    private static void noStep() {
        DUE.sentence("UNDONE: the latest NIGHT");
        ThankingGifts x = Due.houseOf("0:0;p090");
        x.nights(1);
        x.bed(0, 1);
        x.seed(7);
        x.type('0');
        x.image();
        x.sheet(0, 0, 4);
        x.film(0, 4, 0, 0, 0);
        x.copy(0, 0, 0, 1, 3);
        x.item(0, 0, 0, 5);
        x.drop(0);
        x.house();
        due("move to its room", x.move(0, 0), NOT);
        due("pass to its giver", x.pass(0, 0), NOT);
        due("what else was done is none", x.count(8), 1);
        x.restore();
        due("nor is what was restored", x.count(8), 1);
        due("the night alone", x.undo(), 0);
        due("is undone", x.count(2), 0);
    }

    private static void asAheadOfIt() {
        DUE.sentence("ROOMS and GIVERS of THINGS, what is LEFT, who SLEPT, was WOKEN how often, the NIGHT, THE DRAW"
                + " are as ahead of it, whatever was told since");
        ThankingGifts x = Due.houseOf("0:0,1:0;p090,c080");
        x.nights(1);
        x.seed(50);
        x.move(0, 1);
        x.seed(60);
        x.pass(1, 5);
        x.seed(70);
        x.back(1);
        x.seed(80);
        x.nights(1);
        x.seed(90);
        due("the night undone", x.undo(), 4);
        dueMoment(x, "ahead of the night", new int[] {1, 81, 0, 0, 1, 1, 1, 80});
        due("given back undone", x.undo(), 3);
        dueMoment(x, "ahead of what was given back", new int[] {1, 81, 80, 0, 1, 1, 1, 70});
        due("giver then", x.gift(1, 1), 5);
        due("passed undone", x.undo(), 2);
        dueMoment(x, "ahead of what was passed", new int[] {1, 81, 40, 0, 1, 1, 1, 60});
        due("giver ahead", x.gift(1, 1), 0);
        due("moved undone", x.undo(), 1);
        dueMoment(x, "ahead of what was moved", new int[] {0, 81, 40, 0, 1, 1, 1, 50});
        due("the first night undone", x.undo(), 0);
        dueMoment(x, "ahead of all", new int[] {0, 90, 80, 0, 0, 0, 0, 1});
    }

    /** Room and left of 0, left and room of 1, woken of sleeper 0, slept of sleeper 1, the night, the draw. */
    private static void dueMoment(ThankingGifts x, String when, int[] told) {
        due("room, " + when, x.gift(0, 3), told[0]);
        due("left of 0, " + when, x.gift(0, 4), told[1]);
        due("left of 1, " + when, x.gift(1, 4), told[2]);
        due("room of 1, " + when, x.gift(1, 3), told[3]);
        due("woken, " + when, x.of(0, 3), told[4]);
        due("slept, " + when, x.of(1, 2), told[5]);
        due("night, " + when, x.count(2), told[6]);
        due("draw, " + when, x.seed(99), told[7]);
    }

    private static void bedsStay() {
        DUE.sentence("A SLEEPER is in another ROOM (or the same): in which it was.");
        ThankingGifts x = Due.houseOf("2:0;p010");
        x.nights(1);
        due("to 3", x.bed(0, 3), 2);
        due("to 3 again", x.bed(0, 3), 3);
        x.undo();
        due("it is no thing's room: it stays", x.of(0, 0), 3);
        due("to 0", x.bed(0, 0), 3);
        due("who is there", x.room(0, 2), 1);
        due("who was", x.room(2, 2), 0);
    }

    private static void leaveNothing() {
        DUE.sentence("a HOUSE, a new SLEEPER, THING leave nothing to be UNDONE");
        ThankingGifts x = Due.houseInNight("0:0;p010", 9);
        due("a house", Due.house(x, "0:0;p010"), 1);
        due("none behind a house", x.count(8), 0);
        due("NONE behind a house", x.undo(), NONE);
        x.nights(9);
        due("a sleeper", x.sleeper(0, 0), 1);
        due("none behind a sleeper", x.count(8), 0);
        due("NONE behind a sleeper", x.undo(), NONE);
        due("the night stays", x.count(2), 9);
        x.nights(9);
        due("a thing", x.thing(0, 0, 1, 0), 1);
        due("none behind a thing", x.count(8), 0);
        due("NONE behind a thing", x.undo(), NONE);
        due("the night stays again", x.count(2), 18);
        x.nights(2);
        due("no house", Due.house(x, "0:0;p01"), -27);
        due("no sleeper", x.sleeper(4, 0), BAD);
        due("no thing", x.thing(0, 0, 0, 0), BAD);
        due("what was refused leaves them", x.count(8), 2);
    }

    private static void drawAtFirst() {
        DUE.sentence("THE DRAW is a number of 31 bits (1 at first)");
        ThankingGifts x = new ThankingGifts();
        due("1", x.seed(0), 1);
        due("0 may be", x.seed(Integer.MAX_VALUE), 0);
        due("-1 may not", x.seed(-1), BAD);
        due("the lowest may not", x.seed(Integer.MIN_VALUE), BAD);
        due("all 31 bits may be, and stay", x.seed(1), Integer.MAX_VALUE);
    }

    private static void drawOf31Bits() {
        DUE.sentence("it becomes the lowest 31 bits of itself times 1103515245 and 12345 more");
        int[] from = {0, 1, Integer.MAX_VALUE, 2088216195, 230538014, 1798410728};
        int[] to = {12345, 1103527590, 1043980748, 0, Integer.MAX_VALUE, 1};
        for (int i = 0; i < from.length; i++) {
            ThankingGifts x = new ThankingGifts();
            x.seed(from[i]);
            x.drift(1);
            due("from " + from[i], x.seed(1), to[i]);
        }
    }

    private static void drawAheadOfEachNight() {
        DUE.sentence("ahead of each NIGHT of a DRIFT");
        ThankingGifts x = new ThankingGifts();
        x.drift(3);
        due("three", x.seed(1), 662824084);
        x.drift(40);
        due("forty", x.seed(1), 1775811865);
        x.nights(40);
        due("no other night", x.seed(1), 1);
        ThankingGifts y = Due.houseOf("0:0;p010");
        y.seed(9);
        Due.house(y, "1:1");
        due("nor a house", y.seed(1), 9);
    }

    /** The seeds are those that become: 0, 127, 128, 255, 256, 383, 384, 511, 512, 65535, 65536, 131071, ... */
    private static void movedByDraw() {
        DUE.sentence("if it by 65536, left over by 3, is 0, and there are THINGS, the THING that is it by 65536,"
                + " left over by how many there are, is MOVED to the ROOM that is it by 128, left over by 4");
        int[][] seedDrawThingRoom = {
            {2088216195, 0, 0, 0}, {1790143902, 127, 0, 0}, {1500338435, 128, 0, 1}, {1202266142, 255, 0, 1},
            {912460675, 256, 0, 2}, {614388382, 383, 0, 2}, {324582915, 384, 0, 3}, {26510622, 511, 0, 3},
            {1884188803, 512, 0, 0}, {2032319262, 65535, 0, 3}, {1742513795, 65536, -1, 0},
            {1686616862, 131071, -1, 0}, {1340914462, 196607, -1, 0}, {1051108995, 196608, 3, 0},
            {463231235, 196736, 3, 1}, {995212062, 262143, 3, 3}, {705406595, 262144, -1, 0},
            {632137347, 2147352576, 6, 0}, {576240414, 2147418111, 6, 3}, {286434947, 2147418112, -1, 0},
            {230538014, 2147483647, -1, 0}};
        for (int[] row : seedDrawThingRoom) {
            int home = row[3] == 2 ? 1 : 2;
            ThankingGifts x = new ThankingGifts();
            for (int t = 0; t < 8; t++) {
                x.thing(0, 0, 1, home);
            }
            x.seed(row[0]);
            x.drift(1);
            for (int t = 0; t < 8; t++) {
                due("draw " + row[1] + ", room of " + t, x.gift(t, 3), t == row[2] ? row[3] : home);
            }
            due("the draw", x.seed(0), row[1]);
            due("one night to be undone", x.count(8), 1);
        }
    }

    private static void movedAmongThings() {
        DUE.sentence("left over by how many there are");
        int[] moved = {-1, 0, 0, 0, 2, 1, 0, 6, 6};
        for (int many = 0; many <= 8; many++) {
            ThankingGifts x = new ThankingGifts();
            for (int t = 0; t < many; t++) {
                x.thing(0, 0, 1, 0);
            }
            x.seed(576240414);
            x.drift(1);
            due("of " + many, x.room(3, 1), many == 0 ? 0 : 1 << moved[many]);
        }
    }

    private static void movedAheadOfTheNight() {
        DUE.sentence("in a DRIFT with what was MOVED ahead of it");
        ThankingGifts x = Due.houseOf("0:0,3:0;p010");
        x.seed(324582915);
        due("one is woken", x.drift(1), 1);
        due("not where it was", x.of(0, 3), 0);
        due("where it is", x.of(1, 3), 1);
        ThankingGifts y = Due.houseOf("3:0;p013");
        y.seed(324582915);
        due("moved to where it was: woken", y.drift(1), 1);
        due("is there", y.gift(0, 3), 3);
        due("one night", y.count(8), 1);
    }

    private static void driftUndone() {
        ThankingGifts x = Due.houseOf("0:0,3:0;p010");
        x.seed(324582915);
        x.drift(1);
        due("undone at once", x.undo(), 0);
        due("its room", x.gift(0, 3), 0);
        due("left", x.gift(0, 4), 10);
        due("woken", x.count(7), 0);
        due("slept", x.count(6), 0);
        due("night", x.count(2), 0);
        due("draw", x.seed(1), 324582915);
        x.drift(3);
        int[] draws = {377401575, 1103527590, 1};
        for (int i = 0; i < 3; i++) {
            due("one by one", x.undo(), 2 - i);
            int draw = x.seed(5);
            due("draw", draw, draws[i]);
        }
    }

    private static void drawOfNothing() {
        DUE.sentence("and there are THINGS");
        ThankingGifts x = Due.houseOf("0:0");
        x.seed(2088216195);
        due("nothing to be moved", x.drift(1), 0);
        due("drawn all the same", x.seed(1), 0);
        due("slept", x.of(0, 2), 1);
        due("nobody, nothing", new ThankingGifts().drift(40), 0);
    }

    private static void image() {
        DUE.sentence("All but SHEETS, THE TAPE is kept as an IMAGE: 1.");
        DUE.sentence("All is as it was then: 1. NONE: there is none.");
        ThankingGifts x = Due.houseOf("2:5;h193");
        due("none yet", x.restore(), NONE);
        x.sheet(0, 1, 3);
        Due.type(x, "1:");
        x.seed(4321);
        due("kept", x.image(), 1);
        x.sheet(0, 2, 5);
        x.sheet(1, 2, 6);
        Due.type(x, "4");
        x.seed(9);
        x.bed(0, 0);
        due("restored", x.restore(), 1);
        due("the draw", x.seed(1), 4321);
        due("the bed", x.of(0, 0), 2);
        due("a sheet as it is", x.drop(0), 5);
        due("another", x.drop(1), 6);
        due("the tape as it is", x.house(), 1);
        due("its house", x.of(0, 1), 4);
        due("nothing in it", x.count(1), 0);
        due("restored behind a house", x.restore(), 1);
        int[] told = {4, 1, 9, 3, 90, 1};
        for (int what = 0; what < told.length; what++) {
            due("of the thing, " + what, x.gift(0, what), told[what]);
        }
        due("bears", x.of(0, 1), 5);
        due("how many", x.count(0) + x.count(1), 2);
    }

    private static void imageOfUndos() {
        ThankingGifts x = Due.houseOf("0:0;f090");
        x.nights(11);
        x.undo();
        x.image();
        for (int again = 0; again < 3; again++) {
            due("seven are known", x.count(8), 7);
            for (int more = 6; more >= 0; more--) {
                due("undone", x.undo(), more);
                due("left", x.gift(0, 4), 90 - 3 - more);
            }
            due("none more", x.undo(), NONE);
            x.nights(5);
            x.sleeper(0, 0);
            due("restored", x.restore(), 1);
            due("one sleeper", x.count(0), 1);
            due("night 10", x.count(2), 10);
            due("woken", x.of(0, 3), 10);
        }
        x.nights(1);
        due("kept anew", x.image(), 1);
        x.nights(1);
        x.restore();
        due("the later one", x.count(2), 11);
        due("eight are known", x.count(8), 8);
    }

    private static void imageOfOtherUndos() {
        DUE.sentence("All is as it was then");
        ThankingGifts x = Due.houseOf("0:0;f090");
        x.nights(8);
        x.image();
        for (int again = 0; again < 2; again++) {
            for (int step = 0; step < 9; step++) {
                x.pass(0, 1 + step % 2);
            }
            due("restored", x.restore(), 1);
            for (int more = 7; more >= 0; more--) {
                due("undone, nothing of what was done since", x.undo(), more);
                due("left", x.gift(0, 4), 90 - more);
                due("giver", x.gift(0, 1), 0);
                due("night", x.count(2), more);
            }
        }
    }

    private static void imageOfANewOne() {
        DUE.sentence("A house, nobody.");
        ThankingGifts x = new ThankingGifts();
        for (int what = 0; what <= 8; what++) {
            due("count " + what, x.count(what), 0);
        }
        for (int room = 0; room < 4; room++) {
            due("quiet", x.room(room, 0), 0);
            due("no things", x.room(room, 1), 0);
            due("no sleepers", x.room(room, 2), 0);
        }
        due("kept", x.image(), 1);
        Due.house(x, "0:0,0:0;f090");
        x.nights(3);
        due("restored", x.restore(), 1);
        for (int what = 0; what <= 8; what++) {
            due("again, count " + what, x.count(what), 0);
        }
        due("no sleeper", x.of(0, 0), BAD);
        due("no thing", x.gift(0, 0), BAD);
    }
}
