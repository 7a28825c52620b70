/** The boundary cases of the document's passage 3 on a HOUSE as a TEXT and its FAULTS, and of THE TAPE. */
public final class TextEdgesTest {
    private static final int BAD = -1, FULL = -3;
    private static final Due DUE = new Due();

    public static void main(String[] args) {
        letters();
        eightyLetters();
        tapeIsEmptyThen();
        oneToFiveSleepers();
        roomDigit();
        numberBorne();
        numbersHaveTwoDigits();
        perhapsThings();
        oneToEightThings();
        kindsInThisOrder();
        giverDearRoom();
        eachLetterAtEachPlace();
        theEnd();
        theEndWhereMoreStood();
        theEndOfAFullTape();
        blanksCountForNothing();
        blanksEndANumber();
        blanksAheadOfAFault();
        placesUpTo80();
        inPlaceOfAll();
        aFaultLeavesAllElse();
        DUE.close("TextEdgesTest");
    }

    private static void due(String call, long got, long want) {
        DUE.is(call, got, want);
    }

    /** What a text comes to: how many SLEEPERS, or a FAULT. */
    private static void dueText(String text, int want) {
        due('"' + text + '"', Due.house(new ThankingGifts(), text), want);
    }

    private static void dueFault(String text, int place) {
        dueText(text, -20 - place);
    }

    private static void letters() {
        DUE.sentence("BAD: not 32 .. 126");
        ThankingGifts x = new ThankingGifts();
        int many = 0;
        for (int letter = -2; letter <= 258; letter++) {
            boolean is = letter >= 32 && letter <= 126;
            if (many == 80) {
                x = new ThankingGifts();
                many = 0;
            }
            many += is ? 1 : 0;
            due("letter " + letter, x.type(letter), is ? many : BAD);
        }
        for (int letter : new int[] {Integer.MIN_VALUE, Integer.MAX_VALUE, 65536 + 48, -65536 + 48}) {
            due("letter " + letter, x.type(letter), BAD);
        }
    }

    private static void eightyLetters() {
        DUE.sentence("One letter more behind THE TAPE: how many it has.");
        DUE.sentence("FULL: 80");
        ThankingGifts x = new ThankingGifts();
        Due.type(x, "0:7,1:8");
        for (int many = 8; many <= 79; many++) {
            due("letter " + many, x.type(' '), many);
        }
        due("the last", x.type(' '), 80);
        due("one more", x.type(' '), FULL);
        due("no letter, and one more", x.type(31), BAD);
        due("what stood there stands", x.house(), 2);
        due("and is a house", x.of(1, 1), 8);
        due("room for letters again", x.type('0'), 1);
    }

    private static void tapeIsEmptyThen() {
        DUE.sentence("THE TAPE, which is empty then, is a HOUSE: how many SLEEPERS. A FAULT (all else stays).");
        ThankingGifts x = new ThankingGifts();
        due("empty at first", x.house(), -20);
        due("a house", Due.house(x, "0:0"), 1);
        due("empty behind a house", x.house(), -20);
        due("a fault", Due.house(x, "0:0,"), -24);
        due("empty behind a fault", x.type('1'), 1);
        due("no letter is left", x.house(), -21);
    }

    private static void oneToFiveSleepers() {
        DUE.sentence("1 to 5 SLEEPERS with , between");
        dueFault("", 0);
        dueFault(",0:0", 0);
        dueFault(";p010", 0);
        dueText("0:0", 1);
        dueText("0:0,1:1", 2);
        dueText("0:0,1:1,2:2,3:3,0:60", 5);
        dueFault("0:0,1:1,2:2,3:3,0:60,", 20);
        dueFault("0:0,1:1,2:2,3:3,0:60,1:0", 20);
        dueFault("0:0,1:1,2:2,3:3,0:6,1:0;p010", 19);
        dueText("0:0,1:1,2:2,3:3,0:60;p010", 5);
        dueFault("0:0,", 4);
        dueFault("0:0,,1:1", 4);
        dueFault("0:0,;p010", 4);
        dueFault("0:0 1:1", 4);
        dueFault("0:0:1", 3);
        ThankingGifts x = Due.houseOf("0:0,1:11,2:2,3:33,0:60");
        int[] rooms = {0, 1, 2, 3, 0};
        int[] bears = {0, 11, 2, 33, 60};
        for (int s = 0; s < 5; s++) {
            due("room of " + s, x.of(s, 0), rooms[s]);
            due("bears of " + s, x.of(s, 1), bears[s]);
        }
    }

    private static void roomDigit() {
        DUE.sentence("each a digit 0 .. 3 (ROOM), then : and a number 0 .. 60 (BEARS)");
        dueText("0:1", 1);
        dueText("3:1", 1);
        dueFault("4:1", 0);
        dueFault("9:1", 0);
        dueFault("-1:1", 0);
        dueFault("/:1", 0);
        dueFault("00:1", 1);
        dueFault("0;1", 1);
        dueFault("0", 1);
        dueFault("0:1,4:1", 4);
    }

    private static void numberBorne() {
        DUE.sentence("or of the number's first digit, if it is not as told");
        for (int number = 0; number <= 99; number++) {
            ThankingGifts x = new ThankingGifts();
            due("0:" + number, Due.house(x, "0:" + number), number <= 60 ? 1 : -22);
            due("bears", x.of(0, 1), number <= 60 ? number : BAD);
        }
        dueFault("0:61,4:9", 2);
        dueFault("0:60,1:61", 7);
        dueFault("0:60,1: 61", 8);
        dueFault("0:611", 2);
        dueFault("0:", 2);
        dueFault("0:x", 2);
        dueFault("0:-1", 2);
        dueFault("0:6x", 3);
        dueFault("0:61x", 2);
    }

    private static void numbersHaveTwoDigits() {
        DUE.sentence("Numbers have 1 or 2 digits.");
        ThankingGifts x = new ThankingGifts();
        due("one", Due.house(x, "0:7"), 1);
        due("7", x.of(0, 1), 7);
        due("two, the first 0", Due.house(x, "0:07"), 1);
        due("7 again", x.of(0, 1), 7);
        due("00", Due.house(x, "0:00"), 1);
        due("0", x.of(0, 1), 0);
        due("three", Due.house(x, "0:007"), -24);
        due("three, in all 0", Due.house(x, "0:000"), -24);
        due("three, the last 0", Due.house(x, "0:600"), -24);
        due("0 still", x.of(0, 1), 0);
    }

    private static void perhapsThings() {
        DUE.sentence("then perhaps ; and 1 to 8 THINGS with , between");
        due("none", Due.houseOf("0:0").count(1), 0);
        due("one", Due.houseOf("0:0;p010").count(1), 1);
        dueFault("0:0;", 4);
        dueFault("0:0;;p010", 4);
        dueFault("0:0;,p010", 4);
        dueFault("0:0p010", 3);
        dueFault("0:0,p010", 4);
        dueFault("0:0;p010;", 8);
        dueFault("0:0;p010;p010", 8);
        dueFault("0:0;p010p010", 8);
        dueFault("0:0;p010,", 9);
        dueFault("0:0;p010,1:1", 9);
    }

    private static void oneToEightThings() {
        DUE.sentence("1 to 8 THINGS");
        String seven = "0:0;p010,f121,c232,t343,h450,p561,f672";
        due("seven", Due.houseOf(seven).count(1), 7);
        ThankingGifts x = Due.houseOf(seven + ",c993");
        due("eight", x.count(1), 8);
        int[][] told = {{0, 0, 1, 0}, {1, 1, 2, 1}, {2, 2, 3, 2}, {3, 3, 4, 3}, {4, 4, 5, 0}, {0, 5, 6, 1},
            {1, 6, 7, 2}, {2, 9, 9, 3}};
        for (int t = 0; t < 8; t++) {
            for (int what = 0; what < 4; what++) {
                due("thing " + t + ", " + what, x.gift(t, what), told[t][what]);
            }
            due("left of " + t, x.gift(t, 4), 10 * told[t][2]);
        }
        dueFault(seven + ",c993,", 43);
        dueFault(seven + ",c993,t010", 43);
        dueFault(seven + ",c993 ,t010", 44);
    }

    private static void kindsInThisOrder() {
        DUE.sentence("p f c t h (KINDS in this order)");
        String kinds = "pfcth";
        for (char letter = 33; letter <= 126; letter++) {
            ThankingGifts x = new ThankingGifts();
            int kind = kinds.indexOf(letter);
            due("kind " + letter, Due.house(x, "0:0;" + letter + "010"), kind < 0 ? -24 : 1);
            due("is of it", x.gift(0, 0), kind < 0 ? BAD : kind);
        }
    }

    private static void giverDearRoom() {
        DUE.sentence("a digit (GIVER), a digit 1 .. 9 (DEAR), a digit 0 .. 3 (ROOM)");
        for (int digit = 0; digit <= 9; digit++) {
            ThankingGifts x = new ThankingGifts();
            due("giver " + digit, Due.house(x, "0:0;p" + digit + "10"), 1);
            due("is it", x.gift(0, 1), digit);
            ThankingGifts y = new ThankingGifts();
            due("dear " + digit, Due.house(y, "0:0;p0" + digit + "0"), digit == 0 ? -26 : 1);
            due("is it, too", y.gift(0, 2), digit == 0 ? BAD : digit);
            ThankingGifts z = new ThankingGifts();
            due("room " + digit, Due.house(z, "0:0;p01" + digit), digit > 3 ? -27 : 1);
            due("is it, as well", z.gift(0, 3), digit > 3 ? BAD : digit);
        }
        dueFault("0:0;p0100", 8);
    }

    private static void eachLetterAtEachPlace() {
        DUE.sentence("FAULTS: -20 less the place of the first letter (behind blanks) that can't stand there");
        String text = "2:7;p151,f232";
        String[] may = {"0123", ":", "0123456789", ";", "pfcth", "0123456789", "123456789", "0123", ",", "pfcth",
            "0123456789", "123456789", "0123"};
        for (int place = 0; place < text.length(); place++) {
            for (char letter = 33; letter <= 126; letter++) {
                String other = text.substring(0, place) + letter + text.substring(place + 1);
                if (may[place].indexOf(letter) >= 0) {
                    dueText(other, 1);
                } else {
                    dueFault(other, placeOfFault(place, letter));
                }
            }
        }
    }

    /** Behind the number 7 a digit makes another number, and a comma stands well, but no thing behind it. */
    private static int placeOfFault(int place, char letter) {
        if (place == 3 && letter >= '0' && letter <= '9') {
            return 2;
        }
        return place == 3 && letter == ',' ? 4 : place;
    }

    private static void theEnd() {
        DUE.sentence("(the end: how many there are)");
        String text = "2:7,3:60;p151,f292";
        String wholeAt = " 3 7 8 13 18 ";
        for (int many = 0; many <= text.length(); many++) {
            boolean whole = wholeAt.contains(" " + many + " ");
            dueText(text.substring(0, many), whole ? many == 3 ? 1 : 2 : -20 - many);
        }
        dueFault(" ", 1);
        dueFault("0 ", 2);
        dueFault("0:  ", 4);
        dueFault("0:0,  ", 6);
        dueFault("0:0;  ", 6);
        dueFault("0:0;p  ", 7);
        dueFault("0:0;p01  ", 9);
    }

    private static void theEndWhereMoreStood() {
        DUE.sentence("THE TAPE, which is empty then");
        String text = "2:7,3:60;p151,f292";
        ThankingGifts x = Due.houseOf(text);
        for (int many : new int[] {17, 16, 15, 14, 12, 11, 10, 9, 6, 5, 4, 2, 1, 0}) {
            due(many + " letters of it", Due.house(x, text.substring(0, many)), -20 - many);
        }
        due("without its things", Due.house(x, "2:7,3:60"), 2);
        due("none", x.count(1), 0);
        due("of one digit", Due.house(x, "2:7,3:6"), 2);
        due("bears 6", x.of(1, 1), 6);
        due("one sleeper", Due.house(x, "2:7"), 1);
        due("one", x.count(0), 1);
    }

    private static void theEndOfAFullTape() {
        DUE.sentence("(the end: how many there are)");
        String text = "2:7,3:60;p151,f292";
        for (int many : new int[] {17, 16, 15, 14, 12, 11, 10, 9, 6, 5, 4, 2, 1, 0}) {
            String padded = " ".repeat(80 - many) + text.substring(0, many);
            dueFault(padded, 80);
        }
    }

    private static void blanksCountForNothing() {
        DUE.sentence("blanks count for nothing, but end a number");
        String text = "2:7,3:60;p151,f292";
        for (int place = 0; place <= text.length(); place++) {
            if (place != 7) {
                dueText(text.substring(0, place) + " " + text.substring(place), 2);
                dueText(text.substring(0, place) + "   " + text.substring(place), 2);
            }
        }
        ThankingGifts x = Due.houseOf("  2 : 7 , 3 : 60 ; p 1 5 1 , f 2 9 2  ");
        due("room", x.of(1, 0), 3);
        due("bears", x.of(1, 1), 60);
        due("kind", x.gift(1, 0), 1);
        due("giver", x.gift(1, 1), 2);
        due("dear", x.gift(1, 2), 9);
        due("room of a thing", x.gift(1, 3), 2);
    }

    private static void blanksEndANumber() {
        DUE.sentence("but end a number");
        dueFault("2:6 0", 4);
        dueFault("2:6  0", 5);
        dueFault("2:6 0;p010", 4);
        dueText("2:6 ,0:0", 2);
        dueText("2:6 ;p010", 1);
        due("6", Due.houseOf("2:6 ").of(0, 1), 6);
    }

    private static void blanksAheadOfAFault() {
        DUE.sentence("the place of the first letter (behind blanks) that can't stand there");
        dueFault("  4:1", 2);
        dueFault("0  ;1", 3);
        dueFault("0:  x", 4);
        dueFault("0:  61", 4);
        dueFault("0:1  x", 5);
        dueFault("0:1;  x010", 6);
        dueFault("0:1;p  x10", 7);
        dueFault("0:1;p0  00", 8);
        dueFault("0:1;p01  4", 9);
        dueFault("0:1;p010  x", 10);
    }

    private static void placesUpTo80() {
        DUE.sentence("FULL: 80");
        dueFault(" ".repeat(80), 80);
        dueFault(" ".repeat(79) + "x", 79);
        dueFault(" ".repeat(79) + "0", 80);
        dueFault(" ".repeat(78) + "0:", 80);
        dueText(" ".repeat(77) + "0:6", 1);
        dueText(" ".repeat(76) + "0:60", 1);
        dueFault(" ".repeat(76) + "0:61", 78);
        dueText("0:0" + " ".repeat(77), 1);
        dueFault("0:0" + " ".repeat(76) + "0", 79);
        dueText("0:60,1:60,2:60,3:60,0:60;p010,f121,c232,t343,h450,p561,f672,c993" + " ".repeat(16), 5);
    }

    private static void inPlaceOfAll() {
        DUE.sentence("in place of all SLEEPERS, THINGS; NIGHT 0 (THE DRAW stays)");
        ThankingGifts x = Due.houseOf("0:0,0:0,0:0;f090,f090,f090,f090");
        x.nights(5);
        x.seed(4711);
        due("another", Due.house(x, "3:9;h412"), 1);
        due("sleepers", x.count(0), 1);
        due("no second", x.of(1, 0), BAD);
        due("things", x.count(1), 1);
        due("no second thing", x.gift(1, 0), BAD);
        due("night", x.count(2), 0);
        due("left", x.count(3), 10);
        due("loud", x.count(4), 1);
        due("nothing left of", x.count(5), 0);
        due("slept", x.count(6), 0);
        due("woken", x.count(7), 0);
        due("undone", x.count(8), 0);
        due("room 0", x.room(0, 1) + x.room(0, 2), 0);
        due("the draw", x.seed(1), 4711);
        due("without things", Due.house(x, "3:9"), 1);
        due("none", x.count(1), 0);
    }

    private static void aFaultLeavesAllElse() {
        DUE.sentence("A FAULT (all else stays).");
        ThankingGifts x = Due.houseOf("1:2;c353");
        x.nights(3);
        x.seed(9);
        x.image();
        due("the last letter is wrong", Due.house(x, "0:60,1:60;p010,f12x"), -38);
        due("sleepers", x.count(0), 1);
        due("room", x.of(0, 0), 1);
        due("bears", x.of(0, 1), 2);
        due("slept", x.of(0, 2), 3);
        int[] told = {2, 3, 5, 3, 6, 5};
        for (int what = 0; what < told.length; what++) {
            due("thing, " + what, x.gift(0, what), told[what]);
        }
        due("night", x.count(2), 3);
        due("undone", x.count(8), 3);
        due("draw", x.seed(8), 9);
        due("an undo", x.undo(), 2);
        due("left", x.gift(0, 4), 12);
        due("the image", x.restore(), 1);
        due("as then", x.gift(0, 4), 6);
    }
}
