/** The boundary cases of the document's passage 1: rooms, sleepers, things, kinds, a night. */
public final class HouseEdgesTest {
    private static final int BAD = -1, FULL = -3;
    private static final int LAST_NIGHT = 9999;
    private static final Due DUE = new Due();

    public static void main(String[] args) {
        rooms();
        sleepers();
        bears();
        zeroAtFirst();
        things();
        kindsGiversDears();
        leftAtFirst();
        nightAtFirst();
        nothingLeft();
        plain();
        plainNeverBelowNothing();
        fulsome();
        curt();
        turnabout();
        turnaboutInTheLastNights();
        hum();
        humInTheLastNights();
        noLouderThanBorne();
        allThingsTogether();
        thenSoMuchIsLeft();
        nextNight();
        moved();
        passed();
        givenBack();
        DUE.close("HouseEdgesTest");
    }

    private static void due(String call, long got, long want) {
        DUE.is(call, got, want);
    }

    private static void rooms() {
        DUE.sentence("ROOMS are 0 .. 3.");
        int[] told = {BAD, 0, 1, 2, 3, BAD};
        for (int room = -1; room <= 4; room++) {
            boolean is = told[room + 1] >= 0;
            ThankingGifts x = Due.houseOf("1:9;p012");
            due("sleeper in " + room, x.sleeper(room, 0), is ? 1 : BAD);
            due("thing in " + room, x.thing(0, 0, 5, room), is ? 1 : BAD);
            due("bed in " + room, x.bed(0, room), is ? 1 : BAD);
            due("is there, if it may be", x.of(0, 0), is ? room : 1);
            due("how loud " + room, x.room(room, 0), !is ? BAD : room == 2 ? 6 : 5);
            due("things in " + room, x.room(room, 1), !is ? BAD : room == 2 ? 3 : 2);
            due("sleepers in " + room, x.room(room, 2), is ? 3 : BAD);
            due("ahead in " + room, x.loudAhead(room, 0), !is ? BAD : room == 2 ? 6 : 5);
            due("move to " + room, x.move(0, room), !is ? BAD : room == 2 ? -2 : 2);
            due("is there, if it may", x.gift(0, 3), is ? room : 2);
        }
    }

    private static void sleepers() {
        DUE.sentence("SLEEPERS 0 .. 4, as they come, are in a ROOM");
        ThankingGifts x = new ThankingGifts();
        for (int s = 0; s < 5; s++) {
            due("none before it comes", x.of(s, 0), BAD);
            due("nor to be put to bed", x.bed(s, 0), BAD);
            due("comes as", x.sleeper(3 - s % 4, 10 + s), s);
            due("how many", x.count(0), s + 1);
        }
        for (int s = 0; s < 5; s++) {
            due("room of " + s, x.of(s, 0), 3 - s % 4);
            due("bears of " + s, x.of(s, 1), 10 + s);
        }
        due("no sixth", x.sleeper(0, 0), FULL);
        due("of the sixth", x.of(5, 0), BAD);
        due("five", x.count(0), 5);
        ThankingGifts y = Due.houseOf("0:0,1:1");
        due("behind those of a house", y.sleeper(2, 2), 2);
        y.sleeper(0, 0);
        due("the fifth", y.sleeper(3, 3), 4);
        due("no sixth behind a house", y.sleeper(0, 0), FULL);
        due("no sixth behind a house of five", Due.houseOf("0:0,0:0,0:0,0:0,0:0").sleeper(0, 0), FULL);
    }

    private static void bears() {
        DUE.sentence("BEAR so much (0 .. 60)");
        ThankingGifts x = new ThankingGifts();
        due("-1", x.sleeper(0, -1), BAD);
        due("61", x.sleeper(0, 61), BAD);
        due("nobody came", x.count(0), 0);
        due("0", x.sleeper(0, 0), 0);
        due("60", x.sleeper(0, 60), 1);
        due("bears 0", x.of(0, 1), 0);
        due("bears 60", x.of(1, 1), 60);
    }

    private static void zeroAtFirst() {
        DUE.sentence("of each it is counted how often it SLEPT, was WOKEN (0 at first)");
        ThankingGifts x = Due.houseOf("0:0,1:0;f090");
        x.nights(3);
        x.sleeper(0, 0);
        due("woken, who was there", x.of(0, 3), 3);
        due("slept, who was elsewhere", x.of(1, 2), 3);
        due("woken, who is new", x.of(2, 3), 0);
        due("slept, who is new", x.of(2, 2), 0);
        Due.house(x, "0:0");
        due("woken, behind a house", x.of(0, 3), 0);
        due("slept, behind a house", x.of(0, 2), 0);
        x.sleeper(0, 0);
        x.sleeper(0, 0);
        for (int s = 0; s < 3; s++) {
            due("woken, new where another was", x.of(s, 3), 0);
            due("slept, new where another was", x.of(s, 2), 0);
        }
    }

    private static void things() {
        DUE.sentence("THINGS 0 .. 7, as they come, are of a KIND, of a GIVER (0 .. 9), DEAR by 1 .. 9, in a ROOM");
        ThankingGifts x = new ThankingGifts();
        for (int t = 0; t < 8; t++) {
            due("none before it comes", x.gift(t, 0), BAD);
            due("comes as", x.thing(t % 5, 9 - t, 1 + t, t % 4), t);
            due("how many", x.count(1), t + 1);
        }
        for (int t = 0; t < 8; t++) {
            int[] told = {t % 5, 9 - t, 1 + t, t % 4, 10 + 10 * t};
            for (int what = 0; what < told.length; what++) {
                due("thing " + t + ", " + what, x.gift(t, what), told[what]);
            }
        }
        due("no ninth", x.thing(0, 0, 1, 0), FULL);
        due("of the ninth", x.gift(8, 0), BAD);
        due("eight", x.count(1), 8);
        ThankingGifts y = Due.houseOf("0:0;p010,p010,p010,p010,p010,p010,p010");
        due("behind seven of a house", y.thing(4, 9, 9, 3), 7);
        due("no ninth behind a house", y.thing(4, 9, 9, 3), FULL);
    }

    private static void kindsGiversDears() {
        DUE.sentence("0 PLAIN");
        DUE.sentence("4 HUM");
        for (int kind = -1; kind <= 5; kind++) {
            due("kind " + kind, new ThankingGifts().thing(kind, 0, 1, 0), kind < 0 || kind > 4 ? BAD : 0);
        }
        DUE.sentence("of a GIVER (0 .. 9)");
        for (int giver = -1; giver <= 10; giver++) {
            ThankingGifts x = Due.houseOf("0:0;p320");
            boolean is = giver >= 0 && giver <= 9;
            due("thanked " + giver, x.thanked(giver), !is ? BAD : giver == 3 ? 2 : 0);
            due("thing of " + giver, x.thing(0, giver, 1, 0), is ? 1 : BAD);
            due("pass to " + giver, x.pass(0, giver), !is ? BAD : giver == 3 ? -2 : 20);
            due("is of", x.gift(0, 1), is ? giver : 3);
        }
        DUE.sentence("DEAR by 1 .. 9");
        for (int dear = -1; dear <= 10; dear++) {
            due("dear by " + dear, new ThankingGifts().thing(0, 0, dear, 0), dear < 1 || dear > 9 ? BAD : 0);
        }
    }

    private static void leftAtFirst() {
        DUE.sentence("of its thanks 0 .. 99 is LEFT (10 times DEAR at first, 99 at most)");
        for (int kind = 0; kind < 5; kind++) {
            for (int dear = 1; dear <= 9; dear++) {
                ThankingGifts x = new ThankingGifts();
                x.thing(kind, 0, dear, 0);
                due("kind " + kind + ", dear by " + dear, x.gift(0, 4), 10 * dear);
            }
        }
        due("in a later night, too", lateThing(), 90);
    }

    private static int lateThing() {
        ThankingGifts x = Due.houseInNight("0:0", LAST_NIGHT);
        x.thing(2, 0, 9, 0);
        return x.gift(0, 4);
    }

    private static void nightAtFirst() {
        DUE.sentence("It is NIGHT 0 at first.");
        due("night", new ThankingGifts().count(2), 0);
    }

    private static void nothingLeft() {
        DUE.sentence("How LOUD a THING thanks in a NIGHT (nothing LEFT: 0)");
        ThankingGifts x = Due.houseOf("0:0;p090,f090,c090,t090,h090");
        for (int t = 0; t < 5; t++) {
            x.back(t);
        }
        for (int night = 0; night < 7; night++) {
            for (int t = 0; t < 5; t++) {
                due("loud, kind " + t + " in night " + night, x.gift(t, 5), 0);
                due("left, kind " + t + " in night " + night, x.gift(t, 4), 0);
            }
            due("nobody is woken", x.nights(1), 0);
        }
    }

    private static void dueNight(ThankingGifts x, int thing, int loud, int left) {
        int night = x.count(2);
        due("loud in night " + night, x.gift(thing, 5), loud);
        x.nights(1);
        due("left behind night " + night, x.gift(thing, 4), left);
    }

    private static void plain() {
        DUE.sentence("0 PLAIN: LOUD by DEAR; by DEAR less (0 at least).");
        ThankingGifts least = Due.houseOf("0:0;p010");
        ThankingGifts most = Due.houseOf("0:0;p090");
        for (int left = 9; left >= 0; left--) {
            dueNight(least, 0, 1, left);
            dueNight(most, 0, 9, 9 * left);
        }
        dueNight(least, 0, 0, 0);
        dueNight(most, 0, 0, 0);
    }

    /** Of a plain thing ten times DEAR goes by DEAR without a rest, so a rest is heard of as told of another. */
    private static void plainNeverBelowNothing() {
        DUE.sentence("by DEAR less (0 at least)");
        ThankingGifts x = Due.houseInNight("0:0;f090", 80);
        x.sheet(0, 0, 3);
        x.item(0, 0, 0, 1);
        due("10, if plain and dear by 9: 1, 0, 0", x.heard(0, 0, 0, 0, 3, 0), 1);
        x.nights(1);
        x.sheet(0, 0, 3);
        due("9: 0, 0, 0", x.heard(0, 0, 0, 0, 3, 0), 1);
        x.nights(1);
        due("8: 0, 0, 0", x.heard(0, 0, 0, 0, 3, 0), 1);
    }

    private static void fulsome() {
        DUE.sentence("1 FULSOME: LOUD by twice DEAR; by 1 less.");
        ThankingGifts least = Due.houseOf("0:0;f010");
        for (int left = 9; left >= 0; left--) {
            dueNight(least, 0, 2, left);
        }
        dueNight(least, 0, 0, 0);
        ThankingGifts most = Due.houseOf("0:0;f090");
        for (int left = 89; left >= 0; left--) {
            dueNight(most, 0, 18, left);
        }
        dueNight(most, 0, 0, 0);
    }

    private static void curt() {
        DUE.sentence("2 CURT (below PLAIN): LOUD as PLAIN; half of it (cut).");
        ThankingGifts least = Due.houseOf("0:0;c010");
        for (int left : new int[] {5, 2, 1, 0}) {
            dueNight(least, 0, 1, left);
        }
        dueNight(least, 0, 0, 0);
        ThankingGifts most = Due.houseOf("0:0;c090");
        for (int left : new int[] {45, 22, 11, 5, 2, 1, 0}) {
            dueNight(most, 0, 9, left);
        }
        dueNight(most, 0, 0, 0);
    }

    private static void turnabout() {
        DUE.sentence("3 TURNABOUT (below FULSOME): in a NIGHT of an even number (0, too) LOUD by 0, and nothing less;"
                + " else as FULSOME.");
        ThankingGifts x = Due.houseOf("0:0;t010");
        for (int left = 10; left > 0; left--) {
            dueNight(x, 0, 0, left);
            dueNight(x, 0, 2, left - 1);
        }
        dueNight(x, 0, 0, 0);
        dueNight(x, 0, 0, 0);
        ThankingGifts y = Due.houseOf("0:0;t090");
        dueNight(y, 0, 0, 90);
        dueNight(y, 0, 18, 89);
        dueNight(y, 0, 0, 89);
    }

    private static void turnaboutInTheLastNights() {
        ThankingGifts x = Due.houseInNight("0:0;t050", LAST_NIGHT - 1);
        x.pass(0, 1);
        dueNight(x, 0, 0, 50);
        due("loud in night 9999", x.gift(0, 5), 10);
        due("left behind night 9999, foretold", x.ahead(0, 1), 49);
        due("left behind night 10000, foretold", x.ahead(0, 2), 49);
        due("left behind night 10001, foretold", x.ahead(0, 3), 48);
    }

    private static void hum() {
        DUE.sentence("4 HUM (below CURT): LOUD by 1; as CURT, but on each third NIGHT (0, 3, ..) only.");
        ThankingGifts x = Due.houseOf("0:0;h090");
        for (int left : new int[] {45, 22, 11, 5, 2, 1}) {
            for (int night = 0; night < 3; night++) {
                dueNight(x, 0, 1, left);
            }
        }
        dueNight(x, 0, 1, 0);
        dueNight(x, 0, 0, 0);
        ThankingGifts y = Due.houseInNight("0:0;h010", 1);
        y.pass(0, 1);
        dueNight(y, 0, 1, 10);
        dueNight(y, 0, 1, 10);
        dueNight(y, 0, 1, 5);
    }

    private static void humInTheLastNights() {
        ThankingGifts x = Due.houseInNight("0:0;h050", LAST_NIGHT - 2);
        x.pass(0, 1);
        dueNight(x, 0, 1, 50);
        dueNight(x, 0, 1, 50);
        due("left behind night 9999, foretold", x.ahead(0, 1), 25);
        due("left behind night 10001, foretold", x.ahead(0, 3), 25);
        due("left behind night 10002, foretold", x.ahead(0, 4), 12);
    }

    private static void noLouderThanBorne() {
        DUE.sentence("a SLEEPER in whose ROOM all THINGS together are no LOUDER than it BEARS, SLEPT once more,"
                + " else was WOKEN once more");
        ThankingGifts quiet = Due.houseOf("0:0,0:60");
        due("nothing there", quiet.nights(1), 0);
        due("bears 0 and sleeps", quiet.of(0, 2), 1);
        ThankingGifts low = Due.houseOf("0:0,0:1;h090");
        due("sleeps, 1 above 0", low.of(0, 4), 0);
        due("sleeps, 1 as 1", low.of(1, 4), 1);
        due("just one is woken", low.nights(1), 1);
        due("woken, 1 above 0", low.of(0, 3), 1);
        due("not slept", low.of(0, 2), 0);
        due("slept, 1 as 1", low.of(1, 2), 1);
        due("not woken", low.of(1, 3), 0);
        ThankingGifts high = Due.houseOf("0:60,0:59;f090,f090,f090,p060");
        due("60 as 60", high.of(0, 4), 1);
        due("60 above 59", high.of(1, 4), 0);
        due("the one of both", high.nights(1), 1);
        ThankingGifts higher = Due.houseOf("0:60;f090,f090,f090,p070");
        due("61 above 60", higher.of(0, 4), 0);
        due("woken", higher.nights(1), 1);
    }

    private static void allThingsTogether() {
        DUE.sentence("all THINGS together");
        ThankingGifts x = Due.houseOf("0:60,1:0;f090,f090,f090,f090,f090,f090,f090,f090");
        due("the loudest room", x.room(0, 0), 144);
        due("all", x.count(4), 144);
        due("elsewhere it is quiet", x.of(1, 4), 1);
        due("one is woken", x.nights(1), 1);
        due("nobody there", new ThankingGifts().nights(40), 0);
    }

    private static void thenSoMuchIsLeft() {
        DUE.sentence("Then of each THING so much is LEFT as told.");
        ThankingGifts x = Due.houseInNight("0:0,0:0;c010", 3);
        due("1 left", x.gift(0, 4), 1);
        due("the last of it wakes both", x.nights(1), 2);
        due("nothing left", x.gift(0, 4), 0);
        due("all sleep", x.nights(1), 0);
        ThankingGifts y = Due.houseOf("3:0;t010,h030");
        y.nights(1);
        due("things lessen by the night that was, not the next: turnabout", y.gift(0, 4), 10);
        due("hum", y.gift(1, 4), 15);
    }

    private static void nextNight() {
        DUE.sentence("It is the next NIGHT.");
        ThankingGifts x = new ThankingGifts();
        x.nights(1);
        due("night 1", x.count(2), 1);
        x.nights(40);
        due("night 41", x.count(2), 41);
        x.drift(40);
        due("night 81", x.count(2), 81);
    }

    private static void moved() {
        DUE.sentence("MOVED: a THING is in another ROOM.");
        ThankingGifts x = Due.houseOf("0:3,3:3;p040");
        x.nights(1);
        due("was in 0", x.move(0, 3), 0);
        due("loud in 0", x.room(0, 0), 0);
        due("loud in 3", x.room(3, 0), 4);
        due("left as it was", x.gift(0, 4), 36);
        due("of whom it was", x.gift(0, 1), 0);
        x.nights(1);
        due("woken who was in 0", x.of(0, 3), 1);
        due("woken who is in 3", x.of(1, 3), 1);
    }

    private static void passed() {
        DUE.sentence("PASSED: it is of another GIVER, and LEFT is as at first.");
        ThankingGifts x = Due.houseOf("0:0;p090");
        due("all is left", x.pass(0, 9), 90);
        due("as at first, still", x.gift(0, 4), 90);
        x.nights(10);
        due("nothing is left", x.pass(0, 0), 0);
        due("as at first again", x.gift(0, 4), 90);
        due("giver", x.gift(0, 1), 0);
        due("its room stays", x.gift(0, 3), 0);
        x.back(0);
        due("given back and passed", x.pass(0, 4), 0);
        due("thanks again", x.gift(0, 5), 9);
    }

    private static void givenBack() {
        DUE.sentence("GIVEN BACK: nothing is LEFT of its thanks (it stays).");
        ThankingGifts x = Due.houseInNight("0:0;c373", 6);
        due("1 was left", x.back(0), 1);
        due("nothing left", x.gift(0, 4), 0);
        due("kind", x.gift(0, 0), 2);
        due("giver", x.gift(0, 1), 3);
        due("dear", x.gift(0, 2), 7);
        due("room", x.gift(0, 3), 3);
        due("stays among the things", x.count(1), 1);
        due("of its room", x.room(3, 1), 1);
    }
}
