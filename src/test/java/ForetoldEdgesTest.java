/** The boundary cases of the document's passage 2: what is foretold, what had better be, the odds. */
public final class ForetoldEdgesTest {
    private static final int BAD = -1, NONE = -4;
    private static final int LAST_NIGHT = 9999;
    private static final Due DUE = new Due();

    public static void main(String[] args) {
        leftBehind();
        loudThen();
        pastTheLastNight();
        sleptInTheNext();
        peace();
        peaceOfAll();
        bestRoom();
        bestOfLikeOnes();
        bestAllTogether();
        bed();
        bedOfLikeOnes();
        changeEachPair();
        changeForNights();
        changeOfLikeOnes();
        changeNone();
        backForNights();
        backFewest();
        backLeastSet();
        luckEdges();
        luckOfWhatIsLeft();
        luckInLowestTerms();
        thanked();
        fewerNightsBehindMore();
        asManyAsThereMayBe();
        DUE.close("ForetoldEdgesTest");
    }

    private static void due(String call, long got, long want) {
        DUE.is(call, got, want);
    }

    private static void leftBehind() {
        DUE.sentence("behind n NIGHTS (0 .. 60) what is LEFT of a THING");
        ThankingGifts x = Due.houseOf("0:0;f060,f070,f090,t090,p060,h090");
        int[] now = {60, 70, 90, 90, 60, 90};
        int[] behind59 = {1, 11, 31, 61, 0, 0};
        int[] behind60 = {0, 10, 30, 60, 0, 0};
        for (int t = 0; t < 6; t++) {
            due("-1, " + t, x.ahead(t, -1), BAD);
            due("0, " + t, x.ahead(t, 0), now[t]);
            due("59, " + t, x.ahead(t, 59), behind59[t]);
            due("60, " + t, x.ahead(t, 60), behind60[t]);
            due("61, " + t, x.ahead(t, 61), BAD);
        }
        due("plain, behind 9", x.ahead(4, 9), 6);
        due("plain, behind 10", x.ahead(4, 10), 0);
        due("no thing 6", x.ahead(6, 0), BAD);
        due("no thing -1", x.ahead(-1, 0), BAD);
    }

    private static void loudThen() {
        DUE.sentence("how LOUD a ROOM is then (in the NIGHT to come)");
        ThankingGifts x = Due.houseOf("0:0;f060,f071,t092,h013");
        due("-1", x.loudAhead(0, -1), BAD);
        due("0: this night", x.loudAhead(0, 0), 12);
        due("59: 1 is left", x.loudAhead(0, 59), 12);
        due("60: nothing is left", x.loudAhead(0, 60), 0);
        due("60: 10 is left", x.loudAhead(1, 60), 14);
        due("61", x.loudAhead(1, 61), BAD);
        due("turnabout, night 0", x.loudAhead(2, 0), 0);
        due("turnabout, night 1", x.loudAhead(2, 1), 18);
        due("turnabout, night 59", x.loudAhead(2, 59), 18);
        due("turnabout, night 60", x.loudAhead(2, 60), 0);
        due("hum, 1 is left in night 9", x.loudAhead(3, 9), 1);
        due("hum, nothing in night 10", x.loudAhead(3, 10), 0);
    }

    private static void pastTheLastNight() {
        DUE.sentence("FORETOLD from now (nothing is changed)");
        ThankingGifts x = Due.houseInNight("0:17;t090", LAST_NIGHT);
        x.pass(0, 1);
        due("left behind 60", x.ahead(0, 60), 60);
        due("loud in night 9999", x.loudAhead(0, 0), 18);
        due("loud in night 10000", x.loudAhead(0, 1), 0);
        due("loud in night 10059", x.loudAhead(0, 60), 18);
        due("slept in 60", x.sleeps(0, 60), 30);
        due("peace in night 10000", x.peace(), 1);
        due("woken in the best bed", x.bestBed(0, 40, 1), 0);
        due("woken in 40, had it to stay", x.best(0, 40, 1), 0);
        due("to be given back", x.backs(40, 1), 1);
        due("it is night 9999 still", x.count(2), LAST_NIGHT);
        due("all is left still", x.gift(0, 4), 90);
    }

    private static void sleptInTheNext() {
        DUE.sentence("How often a SLEEPER SLEPT in the next n NIGHTS (0 .. 60).");
        ThankingGifts x = Due.houseOf("0:0,1:0,2:0;f060,f051");
        due("-1", x.sleeps(0, -1), BAD);
        due("0", x.sleeps(0, 0), 0);
        due("0, who sleeps", x.sleeps(2, 0), 0);
        due("1", x.sleeps(0, 1), 0);
        due("1, who sleeps", x.sleeps(2, 1), 1);
        due("60, woken in all", x.sleeps(0, 60), 0);
        due("50, woken in all", x.sleeps(1, 50), 0);
        due("51, woken in all but one", x.sleeps(1, 51), 1);
        due("60, woken in 50", x.sleeps(1, 60), 10);
        due("60, woken never", x.sleeps(2, 60), 60);
        due("61", x.sleeps(2, 61), BAD);
        due("no sleeper 3", x.sleeps(3, 0), BAD);
        due("no sleeper -1", x.sleeps(-1, 0), BAD);
        x.nights(5);
        due("what has been is not counted", x.sleeps(2, 0), 0);
        due("nor is it below", x.sleeps(1, 46), 1);
        due("who bears as much as it is loud", Due.houseOf("0:12;f060").sleeps(0, 60), 60);
        due("who bears 1 less", Due.houseOf("0:11;f060").sleeps(0, 60), 0);
    }

    private static void peace() {
        DUE.sentence("PEACE: the first NIGHT of the next 61 (0: this one) in which all SLEEPERS sleep; none.");
        due("nobody, nothing", new ThankingGifts().peace(), 0);
        ThankingGifts things = new ThankingGifts();
        things.thing(1, 0, 9, 0);
        due("nobody", things.peace(), 0);
        due("nothing", Due.houseOf("0:0,3:0").peace(), 0);
        due("no louder than borne", Due.houseOf("0:12;f060").peace(), 0);
        due("night 60", Due.houseOf("0:11;f060").peace(), 60);
        due("night 61 would be", Due.houseInNight("0:0;f070", 9).peace(), NONE);
        due("night 60 from now", Due.houseInNight("0:0;f070", 10).peace(), 60);
        due("the first, though not for good", Due.houseOf("0:0;t010").peace(), 0);
        due("the next, though not for good", Due.houseInNight("0:0;t090", 1).peace(), 1);
        due("turnabout and fulsome, the last of 61", Due.houseOf("0:0;t090,f060").peace(), 60);
    }

    private static void peaceOfAll() {
        DUE.sentence("in which all SLEEPERS sleep");
        due("the last to sleep", Due.houseOf("0:0,1:0,2:0;f010,f021,f032").peace(), 30);
        due("one bears more in the same room", Due.houseOf("0:60,0:0;f040").peace(), 40);
        due("one never sleeps in these", Due.houseOf("1:60,0:60,2:60,3:60,1:0;f091").peace(), NONE);
    }

    private static void bestRoom() {
        DUE.sentence("BEST ROOM of a THING for n NIGHTS (1 .. 40)");
        ThankingGifts x = Due.houseOf("0:0,1:0,2:0,3:0;f053");
        due("0", x.best(0, 0, 0), BAD);
        due("1", x.best(0, 1, 0), 0);
        due("1, how often", x.best(0, 1, 1), 1);
        due("40", x.best(0, 40, 0), 0);
        due("40, how often", x.best(0, 40, 1), 40);
        due("41", x.best(0, 41, 0), BAD);
        due("41, how often", x.best(0, 41, 1), BAD);
        ThankingGifts y = Due.houseOf("0:0,1:0,2:0;t013");
        due("none is woken in this night", y.best(0, 1, 0), 0);
        due("none in the two where nobody is", y.best(0, 2, 0), 3);
        due("how often", y.best(0, 2, 1), 0);
        due("the thing is where it was", y.gift(0, 3), 3);
    }

    private static void bestOfLikeOnes() {
        DUE.sentence("of like ones the first; how often");
        due("all four", Due.houseOf("0:60;p013").best(0, 40, 0), 0);
        due("the last three", Due.houseOf("0:0;p013").best(0, 40, 0), 1);
        due("the last two", Due.houseOf("0:0,1:0;p010").best(0, 40, 0), 2);
        due("the last one", Due.houseOf("0:0,1:0,2:0;p010").best(0, 40, 0), 3);
        due("the first and the last", Due.houseOf("1:0,2:0;p011").best(0, 40, 0), 0);
        ThankingGifts x = Due.houseOf("0:0,1:0;p050,p053");
        x.back(1);
        due("nothing is left: all alike", x.best(1, 5, 0), 0);
        due("the other wakes one", x.best(1, 5, 1), 5);
    }

    private static void bestAllTogether() {
        DUE.sentence("so that SLEEPERS are WOKEN least often in them, all together");
        ThankingGifts x = Due.houseOf("0:0,1:0;p050,p021");
        due("to where one is woken anyhow", x.best(1, 10, 0), 0);
        due("who is woken anyhow counts", x.best(1, 10, 1), 10);
        due("likewise", x.best(0, 10, 0), 1);
        due("likewise, how often", x.best(0, 10, 1), 10);
        ThankingGifts y = Due.houseOf("0:0,0:0,1:0,2:9,3:9;p053,f092");
        due("where fewer are", y.best(1, 4, 0), 1);
        due("how often", y.best(1, 4, 1), 4);
        due("it is borne with what is there, by one", y.best(0, 4, 0), 2);
        due("who is woken there is woken anyhow", y.best(0, 4, 1), 4);
    }

    private static void bed() {
        DUE.sentence("BED of a SLEEPER, likewise (just this one being WOKEN counts).");
        ThankingGifts x = Due.houseOf("3:0,0:0,0:0;f050,f051,f052,f053");
        due("0", x.bestBed(0, 0, 0), BAD);
        due("1", x.bestBed(0, 1, 0), 0);
        due("1, how often", x.bestBed(0, 1, 1), 1);
        due("40", x.bestBed(0, 40, 0), 0);
        due("40, how often: the others are woken, too", x.bestBed(0, 40, 1), 40);
        due("41", x.bestBed(0, 41, 0), BAD);
        due("41, how often", x.bestBed(0, 41, 1), BAD);
        due("it is where it was", x.of(0, 0), 3);
        due("what is woken elsewhere counts for nothing", Due.houseOf("0:0,1:0;f051").bestBed(0, 40, 1), 0);
    }

    private static void bedOfLikeOnes() {
        due("bed: its own", Due.houseOf("2:0;p010,p011,p013").bestBed(0, 10, 0), 2);
        due("bed: the last", Due.houseOf("0:0;p010,p011,p012").bestBed(0, 10, 0), 3);
        due("bed: of three like ones", Due.houseOf("3:0;p010").bestBed(0, 10, 0), 1);
        due("bed: as loud as it bears", Due.houseOf("3:5;p050,p061").bestBed(0, 10, 0), 0);
        due("bed: woken least often, not least loud", Due.houseOf("3:0;f090,c091,f032,f013").bestBed(0, 40, 0), 1);
        due("bed: how often", Due.houseOf("3:0;f090,c091,f032,f013").bestBed(0, 40, 1), 7);
    }

    /** A thing in i wakes one there, and would wherever it went but in j, where nobody is. */
    private static void changeEachPair() {
        DUE.sentence("CHANGE for n NIGHTS: the two ROOMS (i below j) all THINGS of which should change places");
        DUE.sentence("10 i and j (what 0), how often (1); NONE.");
        for (int i = 0; i < 4; i++) {
            for (int j = 0; j < 4; j++) {
                if (i != j) {
                    ThankingGifts x = new ThankingGifts();
                    for (int room = 0; room < 4; room++) {
                        x.sleeper(room == j ? i : room, 0);
                    }
                    x.thing(0, 0, 5, i);
                    x.thing(1, 0, 1, i);
                    due(i + " and " + j, x.change(5, 0), 10 * Math.min(i, j) + Math.max(i, j));
                    due(i + " and " + j + ", how often", x.change(5, 1), 0);
                }
            }
        }
    }

    private static void changeForNights() {
        DUE.sentence("CHANGE (n 1 .. 40)");
        ThankingGifts x = Due.houseOf("0:0,0:0,1:0,2:0,3:0;f050");
        due("0", x.change(0, 0), BAD);
        due("1", x.change(1, 0), 1);
        due("1, how often", x.change(1, 1), 1);
        due("40", x.change(40, 0), 1);
        due("40, how often", x.change(40, 1), 40);
        due("41", x.change(41, 0), BAD);
        due("41, how often", x.change(41, 1), BAD);
        ThankingGifts y = Due.houseOf("0:0;t010");
        due("nobody is woken in this night", y.change(1, 0), NONE);
        due("but in two", y.change(2, 0), 1);
        due("nothing has changed", x.gift(0, 3), 0);
    }

    private static void changeOfLikeOnes() {
        DUE.sentence("of like ones the first pair");
        due("0 and 1 of three", Due.houseOf("0:0;p010").change(5, 0), 1);
        due("0 and 2 of two", Due.houseOf("0:0,1:0;p010").change(5, 0), 2);
        due("0 and 1, from 1", Due.houseOf("1:0;p011").change(5, 0), 1);
        due("0 and 3, from 3", Due.houseOf("3:0;p013").change(5, 0), 3);
        ThankingGifts both = Due.houseOf("1:9,2:5;p051,p092");
        due("both ways, 1 and 2", Due.houseOf("0:0,3:0,1:9,2:5;p051,p092").change(5, 0), 12);
        due("into a room of nobody, ahead of it", both.change(5, 0), 2);
        due("the best of them, though a later one", Due.houseOf("0:0,0:0,1:0,2:9,3:9;p050").change(5, 0), 2);
    }

    private static void changeNone() {
        DUE.sentence("none: by no pair less often than now");
        for (int what = 0; what < 2; what++) {
            due("nobody, nothing", new ThankingGifts().change(40, what), NONE);
            due("nobody is woken", Due.houseOf("0:9;p011").change(40, what), NONE);
            due("as often by each", Due.houseOf("0:0,1:0,2:0,3:0;p011").change(40, what), NONE);
            due("more often by each", Due.houseOf("0:0,1:9,2:0,3:0;p051").change(5, what), NONE);
        }
        ThankingGifts x = Due.houseOf("0:0,1:0,2:0,3:0;p011,p022");
        x.nights(2);
        due("what has been is not counted", x.change(8, 0), NONE);
    }

    private static void backForNights() {
        DUE.sentence("BACK for n NIGHTS (1 .. 40): the fewest THINGS GIVEN BACK now by which nobody is WOKEN in them");
        ThankingGifts x = Due.houseOf("0:0;f010,f010,f010,f010,f010,f010,f010,f010");
        due("0", x.backs(0, 0), BAD);
        due("1", x.backs(1, 0), 8);
        due("1, which", x.backs(1, 1), 255);
        due("40", x.backs(40, 0), 8);
        due("40, which", x.backs(40, 1), 255);
        due("41", x.backs(41, 0), BAD);
        due("41, which", x.backs(41, 1), BAD);
        ThankingGifts y = Due.houseOf("0:0;t010");
        due("not in this night", y.backs(1, 0), 0);
        due("not in this night, which", y.backs(1, 1), 0);
        due("in two", y.backs(2, 0), 1);
        due("in two, which", y.backs(2, 1), 1);
        due("nothing has been given back", y.gift(0, 4), 10);
        for (int what = 0; what < 2; what++) {
            due("nobody, nothing", new ThankingGifts().backs(40, what), 0);
            due("nobody is woken", Due.houseOf("0:9,1:0;p090").backs(40, what), 0);
        }
    }

    private static void backFewest() {
        DUE.sentence("the fewest THINGS GIVEN BACK");
        ThankingGifts x = Due.houseOf("0:7;p030,p030,p010,p090");
        due("the last alone, not the others together", x.backs(40, 0), 1);
        due("which", x.backs(40, 1), 8);
        ThankingGifts y = Due.houseOf("0:6;p030,p030,p010,p090");
        due("two", y.backs(40, 0), 2);
        due("the first with it", y.backs(40, 1), 9);
        y.back(3);
        due("given back already", y.backs(40, 0), 1);
        due("one more", y.backs(40, 1), 1);
        ThankingGifts z = Due.houseOf("0:0,1:1;p030,p011,p012,p021");
        due("of both rooms, none of a third", z.backs(40, 0), 2);
        due("which of these", z.backs(40, 1), 9);
    }

    private static void backLeastSet() {
        DUE.sentence("of like ones the least set: how many; which; none.");
        due("one of three", Due.houseOf("0:2;p010,p010,p010").backs(40, 1), 1);
        due("two of three", Due.houseOf("0:1;p010,p010,p010").backs(40, 1), 3);
        due("1 and 2 are a lesser set than 0 and 3", Due.houseOf("0:6;p020,p030,p030,p040").backs(40, 1), 6);
    }

    private static void luckEdges() {
        DUE.sentence("LUCK by c of 10 (0 .. 10)");
        ThankingGifts x = Due.houseOf("0:0,1:0;p010,p020");
        due("-1", x.luck(0, -1, 0), BAD);
        dueFraction("0: never", x, 0, 0, 0, 1);
        dueFraction("1", x, 0, 1, 1, 100);
        dueFraction("9", x, 0, 9, 81, 100);
        dueFraction("10: surely", x, 0, 10, 1, 1);
        due("11", x.luck(0, 11, 0), BAD);
        for (int c = 0; c <= 10; c++) {
            dueFraction("nothing in the room, c " + c, x, 1, c, 1, 1);
        }
        due("no sleeper 2", x.luck(2, 5, 0), BAD);
        due("no sleeper -1", x.luck(-1, 5, 1), BAD);
    }

    private static void dueFraction(String label, ThankingGifts x, int sleeper, int c, int above, int below) {
        due(label + ", above", x.luck(sleeper, c, 0), above);
        due(label + ", below", x.luck(sleeper, c, 1), below);
    }

    private static void luckOfWhatIsLeft() {
        DUE.sentence("each THING with something LEFT falls silent in this NIGHT by c of 10, apart:"
                + " how likely a SLEEPER sleeps in it");
        dueFraction("one of two at least", Due.houseOf("0:1;p010,p010"), 0, 1, 19, 100);
        dueFraction("as loud as borne", Due.houseOf("0:2;p010,p010"), 0, 0, 1, 1);
        ThankingGifts x = Due.houseOf("0:1;p010,p010");
        x.back(0);
        dueFraction("nothing is left of one", x, 0, 1, 1, 1);
        x.back(1);
        dueFraction("nothing is left", x, 0, 0, 1, 1);
        ThankingGifts y = Due.houseOf("0:0;t090,t090,p010");
        dueFraction("turnabouts are no louder in this night", y, 0, 3, 3, 10);
        y.nights(1);
        dueFraction("but in the next", y, 0, 3, 27, 1000);
        dueFraction("60: three of four by 18", Due.houseOf("0:60;f090,f090,f090,f090"), 0, 5, 15, 16);
        dueFraction("53: two of four", Due.houseOf("0:53;f090,f090,f090,f090"), 0, 5, 11, 16);
        dueFraction("in other rooms", Due.houseOf("0:0;p011,p012,p013"), 0, 0, 1, 1);
    }

    private static void luckInLowestTerms() {
        DUE.sentence("a fraction in lowest terms");
        ThankingGifts x = Due.houseOf("0:0;p010,p010,p010,p010,p010,p010,p010,p010");
        int[] above = {0, 1, 1, 6561, 256, 1, 6561, 5764801, 65536, 43046721, 1};
        int[] below = {1, 100000000, 390625, 100000000, 390625, 256, 390625, 100000000, 390625, 100000000, 1};
        for (int c = 0; c <= 10; c++) {
            dueFraction("eight, c " + c, x, 0, c, above[c], below[c]);
        }
        dueFraction("seven of eight, c 1", Due.houseOf("0:7;p010,p010,p010,p010,p010,p010,p010,p010"), 0, 1,
                56953279, 100000000);
        dueFraction("surely, by all ways", Due.houseOf("0:8;p010,p010,p010,p010,p010,p010,p010,p010"), 0, 3, 1, 1);
    }

    private static void thanked() {
        DUE.sentence("THANKED: of a GIVER how LOUD all THINGS of it are in this NIGHT, in all ROOMS.");
        ThankingGifts x = Due.houseOf("0:0;f990,f991,f992,f993,f990,f991,f992,p993");
        due("-1", x.thanked(-1), BAD);
        due("of 0, nothing", x.thanked(0), 0);
        due("of 9, all", x.thanked(9), 7 * 18 + 9);
        due("10", x.thanked(10), BAD);
        x.back(0);
        x.pass(1, 0);
        due("given back, passed", x.thanked(9), 5 * 18 + 9);
        due("of 0, the one", x.thanked(0), 18);
        due("nobody, nothing", new ThankingGifts().thanked(0), 0);
    }

    /** What was looked at for more NIGHTS is not counted in fewer. */
    private static void fewerNightsBehindMore() {
        DUE.sentence("FORETOLD from now (nothing is changed)");
        ThankingGifts x = Due.houseOf("0:0,1:0,2:0,3:0;f090,f091");
        for (int n : new int[] {40, 39, 7, 1}) {
            due("best of " + n, x.best(0, n, 1), n);
            due("best bed of " + n, x.bestBed(0, n, 1), 0);
            due("slept of " + n, x.sleeps(0, n), 0);
        }
        ThankingGifts y = Due.houseOf("0:0,0:0,1:0,2:0,3:0;f090");
        ThankingGifts z = Due.houseOf("0:0;t090");
        for (int n : new int[] {40, 2, 1}) {
            due("change of " + n, y.change(n, 1), n);
            due("back of " + n, z.backs(n, 0), n == 1 ? 0 : 1);
            due("change of turnabout, " + n, z.change(n, 0), n == 1 ? NONE : 1);
            due("best bed of turnabout, " + n, z.bestBed(0, n, 0), n == 1 ? 0 : 1);
        }
    }

    private static void asManyAsThereMayBe() {
        DUE.sentence("SLEEPERS 0 .. 4");
        DUE.sentence("THINGS 0 .. 7");
        ThankingGifts x = Due.houseOf("0:0,0:0,0:0,0:0,0:0;f090,f090,f090,f090,f090,f090,f090,f090");
        due("left", x.ahead(7, 60), 30);
        due("loud", x.loudAhead(0, 60), 144);
        due("slept", x.sleeps(4, 60), 0);
        due("peace", x.peace(), NONE);
        due("best", x.best(7, 40, 0), 0);
        due("best, how often", x.best(7, 40, 1), 200);
        due("best bed", x.bestBed(4, 40, 0), 1);
        due("change", x.change(40, 0), 1);
        due("change, how often", x.change(40, 1), 0);
        due("back", x.backs(40, 0), 8);
        due("back, which", x.backs(40, 1), 255);
        dueFraction("luck", x, 4, 5, 1, 256);
        due("thanked", x.thanked(0), 144);
    }
}
