/** The boundary cases of the promises that no passage tells: what is asked, how far nights go, what is answered. */
public final class CallEdgesTest {
    private static final int BAD = -1, NOT = -2, FULL = -3, NONE = -4;
    private static final Due DUE = new Due();

    public static void main(String[] args) {
        ofASleeper();
        ofAThing();
        ofARoom();
        counts();
        countsOfAll();
        setsAreBits();
        nightsAtOnce();
        nightsUpTo9999();
        driftsUpTo9999();
        undoneFrom9999();
        moveNot();
        passNot();
        backNot();
        whatIsDividedIsCut();
        usedFor512Calls();
        DUE.close("CallEdgesTest");
    }

    private static void due(String call, long got, long want) {
        DUE.is(call, got, want);
    }

    private static void ofASleeper() {
        DUE.sentence("Of a SLEEPER: 0 ROOM, 1 BEARS, 2 SLEPT, 3 WOKEN, 4 whether it sleeps in this NIGHT (1, 0). BAD.");
        ThankingGifts x = Due.houseInNight("3:1,2:7;t053,h012", 3);
        int[][] told = {{3, 1, 2, 1, 0}, {2, 7, 3, 0, 1}};
        for (int s = 0; s < 2; s++) {
            due("-1", x.of(s, -1), BAD);
            for (int what = 0; what <= 4; what++) {
                due("sleeper " + s + ", " + what, x.of(s, what), told[s][what]);
            }
            due("5", x.of(s, 5), BAD);
        }
        due("sleeper 2", x.of(2, 0), BAD);
        due("sleeper -1", x.of(-1, 4), BAD);
        x.nights(1);
        due("the next night is even", x.of(0, 4), 1);
    }

    private static void ofAThing() {
        DUE.sentence("Of a THING: 0 KIND, 1 GIVER, 2 DEAR, 3 ROOM, 4 LEFT, 5 how LOUD in this NIGHT. BAD.");
        ThankingGifts x = Due.houseInNight("0:0;h993,f012", 1);
        int[][] told = {{4, 9, 9, 3, 45, 1}, {1, 0, 1, 2, 9, 2}};
        for (int t = 0; t < 2; t++) {
            due("-1", x.gift(t, -1), BAD);
            for (int what = 0; what <= 5; what++) {
                due("thing " + t + ", " + what, x.gift(t, what), told[t][what]);
            }
            due("6", x.gift(t, 6), BAD);
        }
        due("thing 2", x.gift(2, 0), BAD);
        due("thing -1", x.gift(-1, 5), BAD);
    }

    private static void ofARoom() {
        DUE.sentence("How LOUD a ROOM is in this NIGHT (what 0), which THINGS are in it (1, a set), which SLEEPERS"
                + " (2, a set). BAD.");
        ThankingGifts x = Due.houseOf("3:0,0:0,3:0,3:0,3:0;p013,f023,c033,t043,h053,p063,f073,c080");
        int[][] told = {{8, 128, 2}, {0, 0, 0}, {0, 0, 0}, {1 + 4 + 3 + 1 + 6 + 14, 127, 29}};
        for (int room = 0; room < 4; room++) {
            due("-1", x.room(room, -1), BAD);
            for (int what = 0; what < 3; what++) {
                due("room " + room + ", " + what, x.room(room, what), told[room][what]);
            }
            due("3", x.room(room, 3), BAD);
        }
    }

    private static void counts() {
        DUE.sentence("0 SLEEPERS, 1 THINGS, 2 the NIGHT, 3 what is LEFT of all, 4 how LOUD all are in this NIGHT,"
                + " 5 THINGS of which nothing is LEFT (a set), 6 how often all SLEPT, 7 were WOKEN,"
                + " 8 what may be UNDONE. BAD.");
        ThankingGifts x = Due.houseInNight("0:0,1:0,2:0;p010,f021,c012", 5);
        int[] told = {3, 3, 5, 5 + 15, 1 + 4, 4, 1, 14, 5};
        due("-1", x.count(-1), BAD);
        for (int what = 0; what <= 8; what++) {
            due("count " + what, x.count(what), told[what]);
        }
        due("9", x.count(9), BAD);
        due("lowest", x.count(Integer.MIN_VALUE), BAD);
        due("highest", x.count(Integer.MAX_VALUE), BAD);
    }

    private static void countsOfAll() {
        ThankingGifts x = Due.houseOf("0:0,0:0,0:0,0:0,0:60;f090,f090,f090,f090,f090,f090,f090,f090");
        int[] told = {5, 8, 0, 720, 144, 0, 0, 0, 0};
        for (int what = 0; what <= 8; what++) {
            due("as many as there may be, count " + what, x.count(what), told[what]);
        }
        due("all are woken, in all", x.nights(40), 200);
        for (int t = 0; t < 8; t++) {
            x.back(t);
        }
        int[] then = {5, 8, 40, 0, 0, 255, 0, 200, 8};
        for (int what = 0; what <= 8; what++) {
            due("given back, count " + what, x.count(what), then[what]);
        }
    }

    private static void setsAreBits() {
        DUE.sentence("Sets are bits.");
        for (int t = 0; t < 8; t++) {
            ThankingGifts x = new ThankingGifts();
            for (int other = 0; other < 8; other++) {
                x.thing(1, 0, 1, other == t ? 3 : 0);
            }
            due("just thing " + t, x.room(3, 1), 1 << t);
            due("all but thing " + t, x.room(0, 1), 255 - (1 << t));
            x.back(t);
            due("nothing left of " + t, x.count(5), 1 << t);
        }
        for (int s = 0; s < 5; s++) {
            ThankingGifts x = new ThankingGifts();
            for (int other = 0; other < 5; other++) {
                x.sleeper(other == s ? 3 : 0, 0);
            }
            due("just sleeper " + s, x.room(3, 2), 1 << s);
            due("all but sleeper " + s, x.room(0, 2), 31 - (1 << s));
        }
    }

    private static void nightsAtOnce() {
        DUE.sentence("n NIGHTS (1 .. 40): how often all were WOKEN in these. BAD;");
        DUE.sentence("A DRIFT of n NIGHTS (1 .. 40): how often all were WOKEN in these. BAD; FULL: likewise.");
        ThankingGifts x = Due.houseOf("0:0,0:0;f090");
        x.seed(1742513795);
        for (int n : new int[] {0, -1, 41, Integer.MIN_VALUE, Integer.MAX_VALUE}) {
            due("nights " + n, x.nights(n), BAD);
            due("drift " + n, x.drift(n), BAD);
        }
        due("none was", x.count(2), 0);
        due("1", x.nights(1), 2);
        due("a drift of 1, no move", x.drift(1), 2);
        due("40", x.nights(40), 80);
        due("what was ahead is not counted", x.nights(40), 80);
        due("until nothing is left", x.nights(40), 2 * (90 - 82));
        due("122 nights", x.count(2), 122);
        due("a drift of 40", Due.houseOf("0:0").drift(40), 0);
    }

    private static void nightsUpTo9999() {
        DUE.sentence("FULL: the NIGHT would be above 9999");
        ThankingGifts x = Due.houseInNight("0:0;f090", 9959);
        due("40 to 9999", x.nights(40), 0);
        due("is it", x.count(2), 9999);
        for (int n = 1; n <= 40; n++) {
            due(n + " above", x.nights(n), FULL);
        }
        due("BAD ahead of FULL, 0", x.nights(0), BAD);
        due("BAD ahead of FULL, 41", x.nights(41), BAD);
        due("BAD ahead of FULL, highest", x.nights(Integer.MAX_VALUE), BAD);
        due("still", x.count(2), 9999);
        ThankingGifts y = Due.houseInNight("0:0;f090", 9960);
        due("40 to 10000", y.nights(40), FULL);
        due("none of them was", y.count(2), 9960);
        due("nor is to be undone", y.count(8), 8);
        due("39 to 9999", y.nights(39), 0);
        due("is it, too", y.count(2), 9999);
    }

    private static void driftsUpTo9999() {
        DUE.sentence("BAD; FULL: likewise.");
        ThankingGifts x = Due.houseInNight("0:0;f090", 9960);
        x.seed(1);
        due("40 to 10000", x.drift(40), FULL);
        due("none of them was", x.count(2), 9960);
        due("nothing was drawn", x.seed(1), 1);
        due("39 to 9999", x.drift(39), 0);
        due("is it", x.count(2), 9999);
        int draw = x.seed(1);
        due("drawn 39 times", draw * 1103515245L + 12345L & Integer.MAX_VALUE, 1775811865);
        due("1 above", x.drift(1), FULL);
        due("40 above", x.drift(40), FULL);
        due("BAD ahead of FULL, 0", x.drift(0), BAD);
        due("BAD ahead of FULL, 41", x.drift(41), BAD);
        due("nothing was drawn, either", x.seed(1), 1);
    }

    private static void undoneFrom9999() {
        ThankingGifts x = Due.houseInNight("0:0", 9999);
        due("undone", x.undo(), 7);
        due("night 9998", x.count(2), 9998);
        due("two above", x.nights(2), FULL);
        due("one not", x.nights(1), 0);
        due("a house", Due.house(x, "0:0"), 1);
        due("nights again", x.nights(40), 0);
    }

    private static void moveNot() {
        DUE.sentence("MOVED: in which ROOM it was. BAD; NOT: it is there.");
        ThankingGifts x = Due.houseOf("0:0;p010,p013");
        for (int room = 0; room < 4; room++) {
            due("to " + room, x.move(0, room), room == 0 ? NOT : room - 1);
            due("to " + room + " again", x.move(0, room), NOT);
        }
        due("moved", x.count(8), 3);
        due("no thing 2", x.move(2, 0), BAD);
        due("no thing -1", x.move(-1, 0), BAD);
        due("the other stays", x.gift(1, 3), 3);
    }

    private static void passNot() {
        DUE.sentence("PASSED: what was LEFT. BAD; NOT: it is of that GIVER.");
        ThankingGifts x = Due.houseOf("0:0;p010,p990");
        for (int giver = 0; giver <= 9; giver++) {
            due("to " + giver, x.pass(0, giver), giver == 0 ? NOT : 10);
            due("to " + giver + " again", x.pass(0, giver), NOT);
        }
        due("eight are known", x.count(8), 8);
        x.nights(1);
        due("not, though less is left", x.pass(0, 9), NOT);
        due("less is left still", x.gift(0, 4), 9);
        due("no thing 2", x.pass(2, 0), BAD);
        due("no thing -1", x.pass(-1, 0), BAD);
        due("the other stays", x.gift(1, 1), 9);
    }

    private static void backNot() {
        DUE.sentence("GIVEN BACK: what was LEFT. BAD; NOT: nothing is.");
        ThankingGifts x = Due.houseOf("0:0;p010,c010");
        due("given back", x.back(0), 10);
        due("nothing is", x.back(0), NOT);
        due("one step", x.count(8), 1);
        x.nights(3);
        due("1 is", x.back(1), 1);
        due("nothing is, of the other", x.back(1), NOT);
        due("no thing 2", x.back(2), BAD);
        due("no thing -1", x.back(-1), BAD);
        x.nights(8);
        x.pass(0, 1);
        x.nights(10);
        due("by nights, too", x.back(0), NOT);
        due("undone it was", x.undo(), 7);
        due("1 is, of the last night", x.back(0), 1);
    }

    private static void whatIsDividedIsCut() {
        DUE.sentence("What is divided is cut.");
        ThankingGifts x = Due.houseOf("0:0;c090,h070");
        int[] curt = {45, 22, 11, 5, 2, 1, 0, 0};
        int[] hum = {35, 35, 35, 17, 17, 17, 8, 8};
        for (int n = 1; n <= 8; n++) {
            due("curt, behind " + n, x.ahead(0, n), curt[n - 1]);
            due("hum, behind " + n, x.ahead(1, n), hum[n - 1]);
        }
    }

    private static void usedFor512Calls() {
        DUE.sentence("An object is used for at most 512 calls after it has been made");
        ThankingGifts x = new ThankingGifts();
        x.sleeper(0, 0);
        x.thing(1, 0, 9, 0);
        x.image();
        int woken = 0;
        for (int call = 4; call < 511; call++) {
            woken += x.nights(call < 250 ? 40 : 1) > 0 ? 1 : 0;
        }
        due("calls in which it was woken: 40, 40 and 10 nights", woken, 3);
        due("restored", x.restore(), 1);
        due("the 512th", x.undo(), NONE);
    }
}
