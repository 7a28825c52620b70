/** Each promise of the document by answers worked out by hand. */
public final class PromisesTest {
    private static final int BAD = -1, NOT = -2, FULL = -3, NONE = -4, NULL = -11, CAST = -12, INDEX = -13, SIZE = -14;
    private static final int LOW = Integer.MIN_VALUE, HIGH = Integer.MAX_VALUE;
    private static final Due DUE = new Due();

    public static void main(String[] args) {
        promise1New();
        promise2Sleeper();
        promise3Thing();
        promise4Of();
        promise5Gift();
        promise6Room();
        promise7Bed();
        promise8Type();
        promise9House();
        promise9Faults();
        promise10Count();
        promise11Nights();
        promise12Move();
        promise13Pass();
        promise14Back();
        promise15Drift();
        promise16Undo();
        promise16UndoLeaves();
        promise17Seed();
        promise18Ahead();
        promise19LoudAhead();
        promise20Sleeps();
        promise21Peace();
        promise22Best();
        promise23BestBed();
        promise24Change();
        promise25Backs();
        promise26Luck();
        promise27Thanked();
        promise28And29Image();
        promise30Heard();
        promise31Film();
        promise32Sheet();
        promise33Drop();
        promise34Item();
        promise35Copy();
        DUE.close("PromisesTest");
    }

    private static void due(String call, long got, long want) {
        DUE.is(call, got, want);
    }

    private static void promise1New() {
        ThankingGifts x = new ThankingGifts();
        for (int what = 0; what <= 8; what++) {
            due("1: new, count " + what, x.count(what), 0);
        }
        due("1: no sleeper", x.of(0, 0), BAD);
        due("1: no thing", x.gift(0, 0), BAD);
        due("1: no sheet", x.drop(0), NULL);
        due("1: no image", x.restore(), NONE);
        due("1: the draw", x.seed(5), 1);
        due("1: the tape", x.house(), -20);
    }

    private static void promise2Sleeper() {
        ThankingGifts x = new ThankingGifts();
        due("2: room -1", x.sleeper(-1, 3), BAD);
        due("2: room 4", x.sleeper(4, 3), BAD);
        due("2: bears -1", x.sleeper(0, -1), BAD);
        due("2: bears 61", x.sleeper(0, 61), BAD);
        due("2: huge", x.sleeper(LOW, HIGH), BAD);
        due("2: none came", x.count(0), 0);
        due("2: first", x.sleeper(3, 60), 0);
        due("2: second", x.sleeper(0, 0), 1);
        due("2: bears", x.of(0, 1), 60);
        x.sleeper(1, 1);
        x.sleeper(1, 1);
        due("2: fifth", x.sleeper(2, 9), 4);
        due("2: sixth", x.sleeper(2, 9), FULL);
        due("2: BAD ahead of FULL", x.sleeper(4, 9), BAD);
        ThankingGifts y = new ThankingGifts();
        y.nights(2);
        due("2: FULL or BAD leave undos", y.sleeper(4, 0), BAD);
        due("2: undos stay", y.count(8), 2);
        y.sleeper(0, 0);
        due("2: nothing to be undone", y.count(8), 0);
        due("2: the night stays", y.count(2), 2);
    }

    private static void promise3Thing() {
        ThankingGifts x = new ThankingGifts();
        due("3: kind -1", x.thing(-1, 0, 1, 0), BAD);
        due("3: kind 5", x.thing(5, 0, 1, 0), BAD);
        due("3: giver -1", x.thing(0, -1, 1, 0), BAD);
        due("3: giver 10", x.thing(0, 10, 1, 0), BAD);
        due("3: dear 0", x.thing(0, 0, 0, 0), BAD);
        due("3: dear 10", x.thing(0, 0, 10, 0), BAD);
        due("3: room -1", x.thing(0, 0, 1, -1), BAD);
        due("3: room 4", x.thing(0, 0, 1, 4), BAD);
        due("3: none came", x.count(1), 0);
        for (int i = 0; i < 8; i++) {
            due("3: number " + i, x.thing(i % 5, i, i + 1, i % 4), i);
            due("3: left at first", x.gift(i, 4), 10 * (i + 1));
        }
        due("3: ninth", x.thing(0, 0, 1, 0), FULL);
        due("3: BAD ahead of FULL", x.thing(0, 0, 0, 0), BAD);
        ThankingGifts y = new ThankingGifts();
        y.nights(1);
        y.thing(0, 0, 1, 0);
        due("3: nothing to be undone", y.undo(), NONE);
    }

    private static void promise4Of() {
        ThankingGifts x = Due.houseOf("1:5,2:4;p051");
        due("4: room", x.of(1, 0), 2);
        due("4: bears", x.of(0, 1), 5);
        due("4: sleeps at just so loud", x.of(0, 4), 1);
        x.bed(1, 1);
        due("4: is woken above", x.of(1, 4), 0);
        x.nights(3);
        due("4: slept", x.of(0, 2), 3);
        due("4: not woken", x.of(0, 3), 0);
        due("4: woken", x.of(1, 3), 3);
        due("4: what -1", x.of(0, -1), BAD);
        due("4: what 5", x.of(0, 5), BAD);
        due("4: sleeper 2", x.of(2, 0), BAD);
        due("4: sleeper -1", x.of(-1, 0), BAD);
        due("4: huge", x.of(HIGH, LOW), BAD);
    }

    private static void promise5Gift() {
        ThankingGifts x = Due.houseOf("0:0;t793,h052,c150");
        int[] told = {3, 7, 9, 3, 90, 0};
        for (int what = 0; what <= 5; what++) {
            due("5: turnabout, " + what, x.gift(0, what), told[what]);
        }
        due("5: hum is loud by 1", x.gift(1, 5), 1);
        due("5: curt is loud as plain", x.gift(2, 5), 5);
        x.nights(1);
        due("5: turnabout, odd night", x.gift(0, 5), 18);
        x.back(0);
        due("5: nothing left", x.gift(0, 5), 0);
        due("5: what -1", x.gift(0, -1), BAD);
        due("5: what 6", x.gift(0, 6), BAD);
        due("5: thing 3", x.gift(3, 0), BAD);
        due("5: thing -1", x.gift(-1, 0), BAD);
    }

    private static void promise6Room() {
        ThankingGifts x = Due.houseOf("1:0,0:0,1:9;p031,f021,c192");
        due("6: loud", x.room(1, 0), 3 + 4);
        due("6: things", x.room(1, 1), 3);
        due("6: things of 2", x.room(2, 1), 4);
        due("6: sleepers", x.room(1, 2), 5);
        due("6: empty, loud", x.room(3, 0), 0);
        due("6: empty, things", x.room(3, 1), 0);
        due("6: empty, sleepers", x.room(3, 2), 0);
        x.back(0);
        due("6: given back it stays", x.room(1, 1), 3);
        due("6: but is silent", x.room(1, 0), 4);
        due("6: room -1", x.room(-1, 0), BAD);
        due("6: room 4", x.room(4, 0), BAD);
        due("6: what -1", x.room(0, -1), BAD);
        due("6: what 3", x.room(0, 3), BAD);
    }

    private static void promise7Bed() {
        ThankingGifts x = Due.houseOf("1:0");
        due("7: another", x.bed(0, 3), 1);
        due("7: the same", x.bed(0, 3), 3);
        due("7: room 4", x.bed(0, 4), BAD);
        due("7: room -1", x.bed(0, -1), BAD);
        due("7: sleeper 1", x.bed(1, 0), BAD);
        due("7: sleeper -1", x.bed(-1, 0), BAD);
        due("7: is there", x.of(0, 0), 3);
        due("7: nothing to be undone", x.count(8), 0);
    }

    private static void promise8Type() {
        ThankingGifts x = new ThankingGifts();
        due("8: 31", x.type(31), BAD);
        due("8: 127", x.type(127), BAD);
        due("8: 65536 + 48", x.type(65536 + 48), BAD);
        due("8: -1", x.type(-1), BAD);
        due("8: 32", x.type(32), 1);
        due("8: 126", x.type(126), 2);
        for (int i = 3; i <= 80; i++) {
            due("8: letter " + i, x.type('a'), i);
        }
        due("8: the 81st", x.type('a'), FULL);
        due("8: BAD ahead of FULL", x.type(0), BAD);
        x.house();
        due("8: empty then", x.type('0'), 1);
    }

    private static void promise9House() {
        ThankingGifts x = Due.houseOf("0:1;p011");
        x.nights(3);
        x.seed(77);
        due("9: a house", Due.house(x, "  3 : 6 , 0:60 ;h 9 9 3,f042 "), 2);
        due("9: sleepers", x.count(0), 2);
        due("9: things", x.count(1), 2);
        due("9: night 0", x.count(2), 0);
        due("9: slept", x.count(6), 0);
        due("9: woken", x.count(7), 0);
        due("9: nothing to be undone", x.undo(), NONE);
        due("9: the draw stays", x.seed(77), 77);
        due("9: room", x.of(0, 0), 3);
        due("9: bears", x.of(0, 1), 6);
        due("9: kind", x.gift(0, 0), 4);
        due("9: giver", x.gift(0, 1), 9);
        due("9: dear", x.gift(0, 2), 9);
        due("9: room of a thing", x.gift(0, 3), 3);
        due("9: left", x.gift(0, 4), 90);
        due("9: second kind", x.gift(1, 0), 1);
        due("9: two digits, the first 0", Due.house(x, "1:06"), 1);
        due("9: bears 6", x.of(0, 1), 6);
        due("9: no things", x.count(1), 0);
        due("9: five, eight", Due.house(x, "0:0,0:1,0:2,0:3,3:60;p010,f120,c230,t340,h450,p561,f672,c783"), 5);
        due("9: eight", x.count(1), 8);
        due("9: the eighth", x.gift(7, 2), 8);
    }

    private static void promise9Faults() {
        ThankingGifts x = Due.houseOf("2:7;p051");
        x.nights(2);
        String[] texts = {"", "   ", "4:1", "0", "0  ", "0;", "0:", "0:x", "0:61", " 0: 61", "0:611", "0:060", "0:6 0",
            "0:1,", "0:1,,", "0:1 2", "0:1;", "0:1;;", "0:1;q", "0:1;P", "0:1;p", "0:1;px", "0:1;p0", "0:1;p00",
            "0:1;p01", "0:1;p014", "0:1;p0110", "0:1;p011,", "0:1;p011;", "0:1 , ;", "$", "0:-1", "0:99,4",
            "0:1,0:1,0:1,0:1,0:1,0:1", "0:1;p010,p010,p010,p010,p010,p010,p010,p010 ,p010", "0:1$"};
        int[] places = {0, 3, 0, 1, 3, 1, 2, 2, 2, 4, 2, 4, 4,
            4, 4, 4, 4, 4, 4, 4, 5, 5, 6, 6,
            7, 7, 8, 9, 8, 6, 0, 2, 2,
            19, 44, 3};
        for (int i = 0; i < texts.length; i++) {
            due("9: fault of '" + texts[i] + "'", Due.house(x, texts[i]), -20 - places[i]);
            due("9: the tape is empty", x.type(' '), 1);
            x.house();
        }
        due("9: sleeper stays", x.of(0, 1), 7);
        due("9: thing stays", x.gift(0, 4), 40);
        due("9: night stays", x.count(2), 2);
        due("9: undos stay", x.count(8), 2);
    }

    private static void promise10Count() {
        ThankingGifts x = Due.houseOf("0:0,1:0;p010,p921");
        x.nights(2);
        x.nights(8);
        due("10: sleepers", x.count(0), 2);
        due("10: things", x.count(1), 2);
        due("10: night", x.count(2), 10);
        due("10: left, both came to 0", x.count(3), 0);
        due("10: nothing left", x.count(5), 3);
        x.pass(1, 3);
        due("10: left", x.count(3), 20);
        due("10: loud", x.count(4), 2);
        due("10: nothing left of one", x.count(5), 1);
        x.nights(1);
        due("10: slept", x.count(6), 1);
        due("10: woken", x.count(7), 21);
        due("10: undone at most", x.count(8), 8);
        due("10: -1", x.count(-1), BAD);
        due("10: 9", x.count(9), BAD);
    }

    private static void promise11Nights() {
        ThankingGifts x = Due.houseOf("0:5,1:2;p030,f010,c141,t122,h213");
        due("11: 0", x.nights(0), BAD);
        due("11: 41", x.nights(41), BAD);
        due("11: -1", x.nights(-1), BAD);
        due("11: nothing was", x.count(2), 0);
        due("11: the second alone", x.nights(1), 1);
        int[] leftOne = {27, 9, 20, 20, 5};
        int[] leftTwo = {24, 8, 10, 19, 5};
        for (int t = 0; t < 5; t++) {
            due("11: left behind one, " + t, x.gift(t, 4), leftOne[t]);
        }
        x.nights(1);
        for (int t = 0; t < 5; t++) {
            due("11: left behind two, " + t, x.gift(t, 4), leftTwo[t]);
        }
        x.nights(2);
        due("11: hum lessens in night 3", x.gift(4, 4), 2);
        due("11: curt", x.gift(2, 4), 2);
        due("11: turnabout", x.gift(3, 4), 18);
        ThankingGifts y = Due.houseOf("0:0;p090");
        due("11: until it is enough", y.nights(40), 10);
        for (int i = 1; i < 249; i++) {
            y.nights(40);
        }
        due("11: 9960", y.count(2), 9960);
        due("11: would be 10000", y.nights(40), FULL);
        due("11: BAD ahead of FULL", y.nights(41), BAD);
        due("11: 9999", y.nights(39), 0);
        due("11: above", y.nights(1), FULL);
        due("11: 9999 it stays", y.count(2), 9999);
        due("11: foretold all the same", y.ahead(0, 60), 0);
        due("11: peace all the same", y.peace(), 0);
    }

    private static void promise12Move() {
        ThankingGifts x = Due.houseOf("0:0;p050,c060");
        due("12: moved", x.move(1, 3), 0);
        due("12: is there", x.gift(1, 3), 3);
        due("12: again", x.move(1, 3), NOT);
        due("12: room 4", x.move(1, 4), BAD);
        due("12: room -1", x.move(1, -1), BAD);
        due("12: thing 2", x.move(2, 0), BAD);
        due("12: thing -1", x.move(-1, 0), BAD);
        due("12: one to be undone", x.count(8), 1);
        due("12: left stays", x.gift(1, 4), 60);
    }

    private static void promise13Pass() {
        ThankingGifts x = Due.houseOf("0:0;p550");
        x.nights(4);
        due("13: the same giver", x.pass(0, 5), NOT);
        due("13: passed", x.pass(0, 9), 30);
        due("13: giver", x.gift(0, 1), 9);
        due("13: left as at first", x.gift(0, 4), 50);
        due("13: giver 10", x.pass(0, 10), BAD);
        due("13: giver -1", x.pass(0, -1), BAD);
        due("13: thing 1", x.pass(1, 0), BAD);
        due("13: to be undone", x.count(8), 5);
    }

    private static void promise14Back() {
        ThankingGifts x = Due.houseOf("0:0;p550");
        due("14: given back", x.back(0), 50);
        due("14: nothing left", x.gift(0, 4), 0);
        due("14: stays", x.room(0, 1), 1);
        due("14: again", x.back(0), NOT);
        due("14: thing 1", x.back(1), BAD);
        due("14: thing -1", x.back(-1), BAD);
        due("14: one to be undone", x.count(8), 1);
    }

    /** From 1: 1103527590 (by 65536: 16838, by 3: 2, no move), 377401575 (5758, by 3: 1, none), ... */
    private static void promise15Drift() {
        ThankingGifts x = Due.houseOf("0:4,3:4;p050,p050,p050,p050");
        due("15: 0", x.drift(0), BAD);
        due("15: 41", x.drift(41), BAD);
        long draw = 1;
        int[] rooms = {0, 0, 0, 0};
        int moves = 0;
        for (int night = 0; night < 10; night++) {
            draw = (draw * 1103515245L + 12345L) % (1L << 31);
            if (draw / 65536 % 3 == 0) {
                rooms[(int) (draw / 65536 % 4)] = (int) (draw / 128 % 4);
                moves++;
            }
            int woken = 0;
            for (int room = 0; room <= 3; room += 3) {
                for (int t = 0; t < 4; t++) {
                    if (rooms[t] == room) {
                        woken++;
                        break;
                    }
                }
            }
            due("15: woken in " + night, x.drift(1), woken);
            due("15: one record a night", x.count(8), Math.min(night + 1, 8));
            for (int t = 0; t < 4; t++) {
                due("15: room of " + t, x.gift(t, 3), rooms[t]);
            }
        }
        DUE.isTrue("15: something moved in the test", moves > 0);
        due("15: the draw", x.seed(1), draw);
        due("15: nights are no drift", x.nights(1) >= 0 ? x.seed(1) : -99, 1);
        ThankingGifts y = new ThankingGifts();
        due("15: nobody, nothing", y.drift(1), 0);
        due("15: the draw all the same", y.seed(1), 1103527590);
        for (int i = 0; i < 249; i++) {
            y.drift(40);
        }
        int before = y.seed(9);
        y.seed(before);
        due("15: FULL", y.drift(39), FULL);
        due("15: refused, no draw", y.seed(before), before);
        due("15: to 9999", y.drift(38), 0);
    }

    private static void promise16Undo() {
        ThankingGifts x = Due.houseOf("0:9;p050,f150");
        due("16: none", x.undo(), NONE);
        x.nights(2);
        x.move(0, 2);
        x.pass(0, 7);
        x.back(0);
        x.seed(1234);
        due("16: given back", x.undo(), 4);
        due("16: left", x.gift(0, 4), 50);
        due("16: the draw as ahead of it", x.seed(8), 1);
        due("16: passed", x.undo(), 3);
        due("16: giver", x.gift(0, 1), 0);
        due("16: left", x.gift(0, 4), 40);
        due("16: the draw again", x.seed(1), 1);
        due("16: moved", x.undo(), 2);
        due("16: room", x.gift(0, 3), 0);
        due("16: a night", x.undo(), 1);
        due("16: night 1", x.count(2), 1);
        due("16: woken once", x.of(0, 3), 1);
        due("16: left then", x.gift(0, 4), 45);
        due("16: and of the other", x.gift(1, 4), 49);
        due("16: the first night", x.undo(), 0);
        due("16: woken never", x.of(0, 3), 0);
        due("16: none more", x.undo(), NONE);
        x.nights(40);
        due("16: eight are known", x.count(8), 8);
        for (int i = 7; i >= 0; i--) {
            due("16: back by one", x.undo(), i);
        }
        due("16: older ones are lost", x.undo(), NONE);
        due("16: night 32", x.count(2), 32);
        due("16: left behind 32", x.gift(1, 4), 18);
    }

    private static void promise16UndoLeaves() {
        ThankingGifts x = Due.houseOf("0:9;p050");
        x.seed(0);
        x.drift(1);
        due("16: the draw of a drift, 12345", x.seed(12345), 12345);
        due("16: a drift's night with its move", x.gift(0, 3), 12345 / 128 % 4);
        x.bed(0, 3);
        due("16: undone at once", x.undo(), 0);
        due("16: back in its room", x.gift(0, 3), 0);
        due("16: the draw ahead of the drift", x.seed(0), 0);
        due("16: a bed stays as told", x.of(0, 0), 3);
        x.nights(1);
        x.move(0, 0);
        x.pass(0, 0);
        due("16: what was refused leaves none", x.count(8), 1);
        x.sleeper(0, 0);
        due("16: a new sleeper leaves none", x.undo(), NONE);
        x.nights(1);
        x.thing(0, 0, 1, 0);
        due("16: a new thing leaves none", x.undo(), NONE);
        x.nights(1);
        Due.house(x, "0:1");
        due("16: a house leaves none", x.undo(), NONE);
    }

    private static void promise17Seed() {
        ThankingGifts x = new ThankingGifts();
        due("17: was 1", x.seed(HIGH), 1);
        due("17: was high", x.seed(0), HIGH);
        due("17: was 0", x.seed(3), 0);
        due("17: below 0", x.seed(-1), BAD);
        due("17: lowest", x.seed(LOW), BAD);
        due("17: stays", x.seed(3), 3);
        x.seed(HIGH);
        x.drift(1);
        due("17: drawn from the highest", x.seed(1), (HIGH * 1103515245L + 12345L) & HIGH);
    }

    private static void promise18Ahead() {
        ThankingGifts x = Due.houseOf("0:0;p030,f010,c040,t020,h090");
        int[][] told = {{30, 10, 40, 20, 90}, {27, 9, 20, 20, 45}, {24, 8, 10, 19, 45}, {21, 7, 5, 19, 45},
            {18, 6, 2, 18, 22}, {15, 5, 1, 18, 22}, {12, 4, 0, 17, 22}};
        for (int n = 0; n < told.length; n++) {
            for (int t = 0; t < 5; t++) {
                due("18: thing " + t + " behind " + n, x.ahead(t, n), told[n][t]);
            }
        }
        x.nights(1);
        for (int t = 0; t < 5; t++) {
            due("18: from now, " + t, x.ahead(t, 5), told[6][t]);
        }
        due("18: nothing is changed", x.count(2), 1);
        due("18: 60", x.ahead(3, 60), 0);
        due("18: 61", x.ahead(0, 61), BAD);
        due("18: -1", x.ahead(0, -1), BAD);
        due("18: thing 5", x.ahead(5, 0), BAD);
        due("18: thing -1", x.ahead(-1, 0), BAD);
    }

    private static void promise19LoudAhead() {
        ThankingGifts x = Due.houseOf("0:0;p030,t020,h013");
        due("19: now", x.loudAhead(0, 0), 3);
        due("19: in night 1", x.loudAhead(0, 1), 3 + 4);
        due("19: in night 9", x.loudAhead(0, 9), 3 + 4);
        due("19: in night 11", x.loudAhead(0, 11), 4);
        due("19: hum in night 9", x.loudAhead(3, 9), 1);
        due("19: hum in night 10, 10 5 2 1 0", x.loudAhead(3, 10), 0);
        due("19: 60", x.loudAhead(0, 60), 0);
        due("19: 61", x.loudAhead(0, 61), BAD);
        due("19: -1", x.loudAhead(0, -1), BAD);
        due("19: room 4", x.loudAhead(4, 0), BAD);
        due("19: room -1", x.loudAhead(-1, 0), BAD);
        x.nights(1);
        due("19: from now", x.loudAhead(0, 0), 7);
        due("19: an even night", x.loudAhead(0, 1), 3);
    }

    private static void promise20Sleeps() {
        ThankingGifts x = Due.houseOf("0:3,0:2,1:0;p030,t020");
        due("20: 0", x.sleeps(0, 0), 0);
        due("20: this one", x.sleeps(0, 1), 1);
        due("20: even ones", x.sleeps(0, 10), 5);
        due("20: never", x.sleeps(1, 10), 0);
        due("20: even ones behind ten", x.sleeps(1, 16), 3);
        due("20: behind 40 always", x.sleeps(0, 60), 40);
        due("20: elsewhere", x.sleeps(2, 60), 60);
        x.nights(1);
        due("20: counted anew", x.sleeps(0, 1), 0);
        due("20: 61", x.sleeps(0, 61), BAD);
        due("20: -1", x.sleeps(0, -1), BAD);
        due("20: sleeper 3", x.sleeps(3, 0), BAD);
        due("20: sleeper -1", x.sleeps(-1, 0), BAD);
    }

    private static void promise21Peace() {
        ThankingGifts x = new ThankingGifts();
        due("21: nobody", x.peace(), 0);
        due("21: behind ten", Due.houseOf("0:3;p040").peace(), 10);
        due("21: at once", Due.houseOf("0:4;p040").peace(), 0);
        due("21: all of them", Due.houseOf("0:0,1:0;p040,f031").peace(), 30);
        due("21: none in 61", Due.houseOf("0:0;f070").peace(), NONE);
        due("21: the last of 61", Due.houseOf("0:0;f060").peace(), 60);
        ThankingGifts y = Due.houseOf("0:0;p040,t090");
        y.nights(3);
        due("21: from now", y.peace(), 7);
        due("21: nothing is changed", y.count(2), 3);
    }

    private static void promise22Best() {
        ThankingGifts x = Due.houseOf("0:0,1:5,2:0,3:9;p080,p043");
        due("22: all like, in room 3 they would be 12, above 9", x.best(0, 5, 0), 0);
        due("22: how often", x.best(0, 5, 1), 5);
        due("22: where one is woken anyhow", x.best(1, 5, 0), 0);
        due("22: how often, too", x.best(1, 5, 1), 5);
        due("22: nothing is moved", x.gift(1, 3), 3);
        ThankingGifts y = Due.houseOf("0:0,0:0,1:0;p040");
        due("22: away", y.best(0, 40, 0), 2);
        due("22: never", y.best(0, 40, 1), 0);
        due("22: n 0", y.best(0, 0, 0), BAD);
        due("22: n 41", y.best(0, 41, 0), BAD);
        due("22: what 2", y.best(0, 1, 2), BAD);
        due("22: what -1", y.best(0, 1, -1), BAD);
        due("22: thing 1", y.best(1, 1, 0), BAD);
        due("22: thing -1", y.best(-1, 1, 0), BAD);
    }

    private static void promise23BestBed() {
        ThankingGifts x = Due.houseOf("0:3,1:0;p050,c041,t022,f093");
        due("23: curt ones 4, 40 20 10 5 2 1: six nights", x.bestBed(0, 12, 0), 1);
        due("23: how often", x.bestBed(0, 12, 1), 6);
        due("23: turnabout in one", x.bestBed(0, 1, 0), 2);
        due("23: never", x.bestBed(0, 1, 1), 0);
        due("23: nothing is changed", x.of(0, 0), 0);
        due("23: like ones, the first", Due.houseOf("2:0").bestBed(0, 40, 0), 0);
        due("23: n 0", x.bestBed(0, 0, 0), BAD);
        due("23: n 41", x.bestBed(0, 41, 0), BAD);
        due("23: what 2", x.bestBed(0, 1, 2), BAD);
        due("23: what -1", x.bestBed(0, 1, -1), BAD);
        due("23: sleeper 2", x.bestBed(2, 1, 0), BAD);
        due("23: sleeper -1", x.bestBed(-1, 1, 0), BAD);
    }

    private static void promise24Change() {
        ThankingGifts x = Due.houseOf("0:0,1:2,2:9;p050,p032");
        due("24: 0 and 2: 5 nights for none", x.change(5, 1), 0);
        due("24: which: 0 and 3", x.change(5, 0), 3);
        ThankingGifts y = Due.houseOf("0:4,2:5,1:0,3:0;p050,p042");
        due("24: both ways", y.change(7, 0), 2);
        due("24: never", y.change(7, 1), 0);
        ThankingGifts z = Due.houseOf("3:1,1:0,1:0,0:0,2:0;p053,f011");
        due("24: least, not never", z.change(10, 0), 1);
        due("24: the sleeper of 3, of 0", z.change(10, 1), 20);
        due("24: none less", Due.houseOf("0:0,1:0,2:0,3:0;p011").change(5, 0), NONE);
        due("24: none less, how often", Due.houseOf("0:0,1:0,2:0,3:0;p011").change(5, 1), NONE);
        due("24: nothing is changed", y.gift(0, 3), 0);
        due("24: n 0", y.change(0, 0), BAD);
        due("24: n 41", y.change(41, 0), BAD);
        due("24: what 2", y.change(1, 2), BAD);
        due("24: what -1", y.change(1, -1), BAD);
    }

    private static void promise25Backs() {
        ThankingGifts x = Due.houseOf("0:5,1:1;p030,p040,p050,p021,c022");
        due("25: how many", x.backs(3, 0), 3);
        due("25: the least set", x.backs(3, 1), 1 + 2 + 8);
        due("25: nothing is given back", x.gift(0, 4), 30);
        x.bed(0, 3);
        due("25: one", x.backs(40, 0), 1);
        due("25: which", x.backs(40, 1), 8);
        x.bed(1, 3);
        due("25: no need", x.backs(40, 0), 0);
        due("25: no need of any", x.backs(40, 1), 0);
        ThankingGifts y = Due.houseOf("0:0;t010,f010");
        due("25: turnabout not in this night", y.backs(1, 1), 2);
        due("25: but in the next", y.backs(2, 1), 3);
        due("25: n 0", y.backs(0, 0), BAD);
        due("25: n 41", y.backs(41, 0), BAD);
        due("25: what 2", y.backs(1, 2), BAD);
        due("25: what -1", y.backs(1, -1), BAD);
    }

    private static void promise26Luck() {
        ThankingGifts x = Due.houseOf("0:5,1:0;p030,p040,p050,p991");
        due("26: one loud at most, 0.064 + 3 * 0.096, above", x.luck(0, 4, 0), 44);
        due("26: below", x.luck(0, 4, 1), 125);
        due("26: sure, above", x.luck(0, 10, 0), 1);
        due("26: sure, below", x.luck(0, 10, 1), 1);
        due("26: never, above", x.luck(0, 0, 0), 0);
        due("26: never, below", x.luck(0, 0, 1), 1);
        due("26: half, above", x.luck(1, 5, 0), 1);
        due("26: half, below", x.luck(1, 5, 1), 2);
        ThankingGifts y = Due.houseOf("0:0;p010,p010,p010,p010,p010,p010,p010,p010");
        due("26: eight, above", y.luck(0, 1, 0), 1);
        due("26: eight, below", y.luck(0, 1, 1), 100000000);
        due("26: eight by 9, above", y.luck(0, 9, 0), 43046721);
        y.back(0);
        due("26: seven", y.luck(0, 1, 1), 10000000);
        due("26: c -1", x.luck(0, -1, 0), BAD);
        due("26: c 11", x.luck(0, 11, 0), BAD);
        due("26: what 2", x.luck(0, 1, 2), BAD);
        due("26: what -1", x.luck(0, 1, -1), BAD);
        due("26: sleeper 2", x.luck(2, 1, 0), BAD);
        due("26: sleeper -1", x.luck(-1, 1, 0), BAD);
    }

    private static void promise27Thanked() {
        ThankingGifts x = Due.houseOf("0:0;p350,f321,t372,h093");
        due("27: of 3", x.thanked(3), 5 + 4);
        due("27: of 0", x.thanked(0), 1);
        due("27: of nobody", x.thanked(9), 0);
        x.nights(1);
        due("27: an odd night", x.thanked(3), 5 + 4 + 14);
        x.pass(1, 9);
        due("27: passed", x.thanked(9), 4);
        due("27: giver 10", x.thanked(10), BAD);
        due("27: giver -1", x.thanked(-1), BAD);
    }

    private static void promise28And29Image() {
        ThankingGifts x = Due.houseOf("0:0;p050,c160");
        due("29: none", x.restore(), NONE);
        x.nights(2);
        x.move(0, 1);
        x.seed(42);
        x.bed(0, 2);
        due("28: image", x.image(), 1);
        x.sheet(1, 2, 7);
        Due.type(x, "3:3");
        x.nights(9);
        x.seed(43);
        x.bed(0, 3);
        x.sleeper(1, 1);
        x.thing(2, 2, 2, 2);
        for (int again = 0; again < 2; again++) {
            due("29: restored", x.restore(), 1);
            due("29: sleepers", x.count(0), 1);
            due("29: things", x.count(1), 2);
            due("29: night", x.count(2), 2);
            due("29: woken", x.of(0, 3), 2);
            due("29: bed", x.of(0, 0), 2);
            due("29: room", x.gift(0, 3), 1);
            due("29: left", x.gift(1, 4), 15);
            due("29: draw", x.seed(99), 42);
            due("29: undos", x.count(8), 3);
            due("29: undone", x.undo(), 2);
            due("29: as ahead of the move", x.gift(0, 3), 0);
        }
        due("29: sheets stay", x.drop(1), 7);
        due("29: the tape stays, a house", x.house(), 1);
        due("29: of the tape", x.of(0, 0), 3);
        due("29: a house leaves the image", x.restore(), 1);
        due("29: as then", x.count(1), 2);
        x.back(0);
        x.image();
        x.undo();
        x.restore();
        due("28: the later image counts", x.gift(0, 4), 0);
    }

    private static void promise30Heard() {
        ThankingGifts x = Due.houseOf("0:0;p020,c040");
        due("30: nothing there", x.heard(0, 0, 0, 0, 1, 0), NULL);
        x.sheet(0, 3, 10);
        x.item(0, 3, 2, 18);
        x.item(0, 3, 3, 16);
        due("30: kinds, plain", x.heard(0, 0, 3, 2, 2, 0), 1);
        due("30: dear by 2", x.heard(0, 0, 3, 2, 2, 1), 4);
        x.item(0, 3, 2, 20);
        due("30: turnabout in night 0", x.heard(0, 0, 3, 2, 1, 0), 8);
        x.item(0, 3, 2, 10);
        due("30: curt, hum", x.heard(0, 0, 3, 2, 1, 0), 4 + 16);
        x.item(0, 3, 3, 10);
        due("30: hum alone", x.heard(0, 0, 3, 2, 2, 0), 16);
        x.item(0, 3, 0, 20);
        due("30: a curt one of any", x.heard(1, 0, 3, 0, 1, 1), 1022);
        x.item(0, 3, 0, (1L << 32) + 20);
        due("30: not by its lowest bits", x.heard(1, 0, 3, 0, 1, 1), 0);
        due("30: the last", x.heard(1, 0, 3, 9, 1, 0), 0);
        due("30: over the end", x.heard(1, 0, 3, 9, 2, 0), INDEX);
        due("30: huge", x.heard(1, 0, 3, HIGH, 8, 0), INDEX);
        due("30: i -1", x.heard(1, 0, 3, -1, 1, 0), INDEX);
        due("30: CAST ahead of INDEX", x.heard(1, 0, 2, -1, 1, 0), CAST);
        due("30: NULL ahead of CAST", x.heard(1, 1, 2, -1, 1, 0), NULL);
        due("30: thing 2", x.heard(2, 1, 2, 0, 1, 0), BAD);
        due("30: sheet 4", x.heard(0, 4, 2, 0, 1, 0), BAD);
        due("30: sheet -1", x.heard(0, -1, 2, 0, 1, 0), BAD);
        due("30: lane 4", x.heard(0, 0, 4, 0, 1, 0), BAD);
        due("30: lane -1", x.heard(0, 0, -1, 0, 1, 0), BAD);
        due("30: n 0", x.heard(0, 0, 3, 0, 0, 0), BAD);
        due("30: n 9", x.heard(0, 0, 3, 0, 9, 0), BAD);
        due("30: what 2", x.heard(0, 0, 3, 0, 1, 2), BAD);
        due("30: what -1", x.heard(0, 0, 3, 0, 1, -1), BAD);
        x.back(0);
        x.sheet(1, 0, 8);
        due("30: nothing left, all kinds", x.heard(0, 1, 0, 0, 8, 0), 31);
        due("30: nothing left, all dears", x.heard(0, 1, 0, 0, 8, 1), 1022);
    }

    private static void promise31Film() {
        ThankingGifts x = Due.houseOf("0:0;p020,h090");
        due("31: nothing there", x.film(0, 1, 2, 0, 0), NULL);
        x.sheet(2, 0, 24);
        due("31: all", x.film(0, 24, 2, 0, 0), 24);
        due("31: as it will be", x.heard(0, 2, 0, 0, 8, 0), 1);
        due("31: from 1 on", x.film(1, 8, 2, 0, 16), 8);
        due("31: hum", x.heard(1, 2, 0, 16, 8, 0), 16);
        due("31: the rest stays", x.heard(0, 2, 0, 0, 8, 0), 1);
        due("31: over the end", x.film(1, 24, 2, 0, 1), INDEX);
        due("31: refused, nothing came", x.heard(0, 2, 0, 0, 8, 0), 1);
        due("31: i -1", x.film(0, 1, 2, 0, -1), INDEX);
        due("31: huge", x.film(0, 24, 2, 0, HIGH), INDEX);
        due("31: CAST ahead of INDEX", x.film(0, 1, 2, 3, -1), CAST);
        due("31: thing 2", x.film(2, 1, 2, 0, 0), BAD);
        due("31: n 0", x.film(0, 0, 2, 0, 0), BAD);
        due("31: n 25", x.film(0, 25, 2, 0, 0), BAD);
        due("31: sheet 4", x.film(0, 1, 4, 0, 0), BAD);
        due("31: lane 4", x.film(0, 1, 2, 4, 0), BAD);
        due("31: BAD ahead of NULL", x.film(0, 0, 1, 0, 0), BAD);
        due("31: nothing is changed", x.count(2), 0);
    }

    private static void promise32Sheet() {
        ThankingGifts x = Due.houseOf("0:0;p020");
        x.back(0);
        due("32: 24", x.sheet(0, 0, 24), 24);
        x.item(0, 0, 0, 5);
        due("32: an item", x.heard(0, 0, 0, 0, 1, 0), 0);
        due("32: anew", x.sheet(0, 3, 1), 1);
        due("32: all 0", x.heard(0, 0, 3, 0, 1, 0), 31);
        due("32: 0 items", x.sheet(1, 1, 0), 0);
        due("32: no item", x.item(1, 1, 0, 0), INDEX);
        due("32: 25", x.sheet(0, 0, 25), BAD);
        due("32: -1", x.sheet(0, 0, -1), SIZE);
        due("32: lowest", x.sheet(0, 0, LOW), SIZE);
        due("32: BAD ahead of SIZE", x.sheet(0, 4, -1), BAD);
        due("32: sheet 4", x.sheet(4, 0, 1), BAD);
        due("32: sheet -1", x.sheet(-1, 0, 1), BAD);
        due("32: lane -1", x.sheet(0, -1, 1), BAD);
        due("32: refused, it stays", x.drop(0), 1);
    }

    private static void promise33Drop() {
        ThankingGifts x = new ThankingGifts();
        due("33: nothing", x.drop(3), NULL);
        x.sheet(3, 1, 0);
        due("33: none had it", x.drop(3), 0);
        x.sheet(3, 1, 11);
        due("33: eleven", x.drop(3), 11);
        due("33: nothing any more", x.drop(3), NULL);
        due("33: nor for an item", x.item(3, 1, 0, 1), NULL);
        due("33: 4", x.drop(4), BAD);
        due("33: -1", x.drop(-1), BAD);
    }

    private static void promise34Item() {
        ThankingGifts x = Due.houseOf("0:0;f050");
        long[] heldAs49 = {49 + 256, 49 + 65536, 49 + (1L << 32), 49};
        for (int lane = 0; lane <= 3; lane++) {
            x.sheet(0, lane, 2);
            due("34: lane " + lane, x.item(0, lane, 1, heldAs49[lane]), 1);
            due("34: its lowest bits", x.heard(0, 0, lane, 1, 1, 0), 2);
            due("34: of the lane above", x.item(0, lane, 1, heldAs49[lane] + (1L << 40) * (lane == 3 ? 1 : 0)), 1);
            due("34: are not all of a long", x.heard(0, 0, lane, 1, 1, 0), lane == 3 ? 0 : 2);
            due("34: another lane", x.item(0, (lane + 1) % 4, 1, 1), CAST);
            due("34: i 2", x.item(0, lane, 2, 1), INDEX);
            due("34: i -1", x.item(0, lane, -1, 1), INDEX);
        }
        x.sheet(1, 1, 1);
        x.item(1, 1, 0, 49 + 256);
        due("34: shorts hold more than bytes", x.heard(0, 1, 1, 0, 1, 0), 0);
        due("34: CAST ahead of INDEX", x.item(1, 0, 9, 1), CAST);
        due("34: nothing there", x.item(2, 1, 0, 1), NULL);
        due("34: sheet 4", x.item(4, 1, 0, 1), BAD);
        due("34: sheet -1", x.item(-1, 1, 0, 1), BAD);
        due("34: lane 4", x.item(2, 4, 0, 1), BAD);
        due("34: lane -1", x.item(2, -1, 0, 1), BAD);
        due("34: lowest", x.item(1, 1, LOW, Long.MIN_VALUE), INDEX);
    }

    private static void promise35Copy() {
        ThankingGifts x = Due.houseOf("0:0;f050");
        x.sheet(0, 2, 6);
        x.film(0, 4, 0, 2, 0);
        due("35: within, upwards", x.copy(0, 0, 0, 2, 4), 4);
        due("35: as if taken ahead", x.heard(0, 0, 2, 2, 4, 0), 2);
        due("35: within, downwards", x.copy(0, 2, 0, 1, 4), 4);
        due("35: as if taken ahead, too", x.heard(0, 0, 2, 1, 4, 0), 2);
        due("35: to nothing", x.copy(0, 0, 1, 0, 1), NULL);
        due("35: from nothing", x.copy(1, 0, 0, 0, 1), NULL);
        x.sheet(1, 3, 4);
        due("35: unlike lanes", x.copy(0, 0, 1, 0, 1), CAST);
        due("35: CAST ahead of INDEX", x.copy(0, -1, 1, 0, 1), CAST);
        x.sheet(1, 2, 4);
        due("35: over", x.copy(0, 1, 1, 0, 4), 4);
        due("35: came", x.heard(0, 1, 2, 0, 4, 0), 2);
        due("35: none, at the ends", x.copy(0, 6, 1, 4, 0), 0);
        due("35: behind the end of one", x.copy(0, 7, 1, 4, 0), INDEX);
        due("35: behind the end of the other", x.copy(0, 6, 1, 5, 0), INDEX);
        due("35: too many for one", x.copy(1, 1, 0, 0, 4), INDEX);
        due("35: too many for the other", x.copy(0, 0, 1, 0, 5), INDEX);
        due("35: n -1", x.copy(0, 1, 1, 1, -1), INDEX);
        due("35: i -1", x.copy(0, -1, 1, 1, 1), INDEX);
        due("35: j -1", x.copy(0, 1, 1, -1, 1), INDEX);
        due("35: huge", x.copy(0, HIGH, 1, HIGH, HIGH), INDEX);
        due("35: sheet 4", x.copy(4, 0, 0, 0, 1), BAD);
        due("35: to sheet 4", x.copy(2, 0, 4, 0, 1), BAD);
        due("35: sheet -1", x.copy(-1, 0, 0, 0, 1), BAD);
        due("35: to sheet -1", x.copy(0, 0, -1, 0, 1), BAD);
        due("35: refused, it stays", x.heard(0, 1, 2, 0, 4, 0), 2);
    }
}
