/** The boundary cases of SHEETS, of what is HEARD from them and what comes to them. */
public final class SheetEdgesTest {
    private static final int BAD = -1, NULL = -11, CAST = -12, INDEX = -13, SIZE = -14;
    private static final int LOW = Integer.MIN_VALUE, HIGH = Integer.MAX_VALUE;
    /** Thing 0: 10 are LEFT of it; thing 1: nothing is. */
    private static final String READING_HOUSE = "0:0;p010,p010";
    private static final Due DUE = new Due();

    public static void main(String[] args) {
        sheetsAndLanes();
        nothingAtFirst();
        rowsOf0To24Items();
        aNewRow();
        dropped();
        itemPlaces();
        lowestBits();
        takenAsAnotherLane();
        heardForNights();
        heardPlaces();
        heardKinds();
        heardDears();
        heardLeftAsItIs();
        heardWideItems();
        filmForNights();
        filmPlaces();
        filmAll24();
        copyPlaces();
        copyNone();
        copyAsIfTakenAhead();
        copyToAnother();
        copyOfUnlikeLanes();
        DUE.close("SheetEdgesTest");
    }

    private static void due(String call, long got, long want) {
        DUE.is(call, got, want);
    }

    private static ThankingGifts reading() {
        ThankingGifts x = Due.houseOf(READING_HOUSE);
        x.back(1);
        return x;
    }

    /** An item 1 .. 9, by how dear thing 0 would be then; of any other 0. */
    private static int digit(ThankingGifts x, int sheet, int lane, int i) {
        int dears = x.heard(0, sheet, lane, i, 1, 1);
        return dears <= 0 ? 0 : 10 - Integer.numberOfTrailingZeros(dears);
    }

    private static boolean isZero(ThankingGifts x, int sheet, int lane, int i) {
        return x.heard(1, sheet, lane, i, 1, 0) == 31;
    }

    private static void write(ThankingGifts x, int sheet, int lane, String digits) {
        x.sheet(sheet, lane, digits.length());
        for (int i = 0; i < digits.length(); i++) {
            x.item(sheet, lane, i, digits.charAt(i) - '0');
        }
    }

    private static void dueDigits(String label, ThankingGifts x, int sheet, int lane, String digits) {
        for (int i = 0; i < digits.length(); i++) {
            due(label + ", item " + i, digit(x, sheet, lane, i), digits.charAt(i) - '0');
        }
    }

    private static void sheetsAndLanes() {
        DUE.sentence("3 sheets 0 .. 3: nothing (at first), or a row of a LANE: 0 bytes, 1 shorts, 2 ints, 3 longs,"
                + " of 0 to 24 items.");
        ThankingGifts x = reading();
        for (int number : new int[] {-1, 4, LOW, HIGH}) {
            due("sheet " + number, x.sheet(number, 0, 1), BAD);
            due("lane " + number, x.sheet(0, number, 1), BAD);
            due("drop " + number, x.drop(number), BAD);
        }
        for (int sheet = 0; sheet < 4; sheet++) {
            for (int lane = 0; lane < 4; lane++) {
                due("sheet " + sheet + ", lane " + lane, x.sheet(sheet, lane, 2), 2);
                due("an item", x.item(sheet, lane, 1, 7), 1);
                due("is there", digit(x, sheet, lane, 1), 7);
            }
        }
        write(x, 0, 0, "12");
        write(x, 1, 0, "34");
        write(x, 2, 3, "56");
        write(x, 3, 3, "78");
        dueDigits("apart", x, 0, 0, "12");
        dueDigits("apart", x, 1, 0, "34");
        dueDigits("apart", x, 2, 3, "56");
        dueDigits("apart", x, 3, 3, "78");
    }

    private static void nothingAtFirst() {
        DUE.sentence("nothing (at first)");
        ThankingGifts x = reading();
        for (int sheet = 0; sheet < 4; sheet++) {
            due("drop", x.drop(sheet), NULL);
            for (int lane = 0; lane < 4; lane++) {
                due("item", x.item(sheet, lane, 0, 0), NULL);
                due("heard", x.heard(0, sheet, lane, 0, 1, 0), NULL);
                due("film", x.film(0, 1, sheet, lane, 0), NULL);
            }
            due("copy", x.copy(sheet, 0, sheet, 0, 0), NULL);
        }
    }

    private static void rowsOf0To24Items() {
        DUE.sentence("A SHEET holds a new row of a LANE: n. BAD: also n above 24; SIZE: n below 0.");
        for (int lane = 0; lane < 4; lane++) {
            ThankingGifts x = reading();
            due("-1", x.sheet(0, lane, -1), SIZE);
            due("lowest", x.sheet(0, lane, LOW), SIZE);
            due("25", x.sheet(0, lane, 25), BAD);
            due("highest", x.sheet(0, lane, HIGH), BAD);
            due("nothing still", x.drop(0), NULL);
            for (int n = 0; n <= 24; n++) {
                due("n", x.sheet(0, lane, n), n);
                due("no item behind", x.item(0, lane, n, 0), INDEX);
                due("the last", x.item(0, lane, n - 1, 0), n == 0 ? INDEX : 1);
            }
            due("-1 of one that is", x.sheet(0, lane, -1), SIZE);
            due("25 of one that is", x.sheet(0, lane, 25), BAD);
            due("24 still", x.drop(0), 24);
        }
        ThankingGifts y = new ThankingGifts();
        due("BAD ahead of SIZE: sheet", y.sheet(4, 0, -1), BAD);
        due("BAD ahead of SIZE: lane", y.sheet(0, 4, -1), BAD);
    }

    private static void aNewRow() {
        DUE.sentence("A SHEET holds a new row");
        ThankingGifts x = reading();
        for (int lane = 0; lane < 4; lane++) {
            write(x, 2, lane, "987654321987654321987654");
            x.sheet(2, lane, 24);
            for (int i = 0; i < 24; i++) {
                DUE.isTrue("0, lane " + lane + ", item " + i, isZero(x, 2, lane, i));
            }
            write(x, 2, lane, "9");
        }
        x.sheet(2, 1, 5);
        due("of another lane", x.item(2, 3, 0, 1), CAST);
        due("of fewer items", x.item(2, 1, 5, 1), INDEX);
    }

    private static void dropped() {
        DUE.sentence("A SHEET holds nothing: how many items it had. BAD; NULL.");
        ThankingGifts x = reading();
        for (int n : new int[] {0, 1, 23, 24}) {
            x.sheet(1, 2, n);
            due("had", x.drop(1), n);
            due("nothing now", x.drop(1), NULL);
            due("no item", x.item(1, 2, 0, 1), NULL);
        }
        write(x, 1, 2, "5");
        write(x, 3, 1, "5");
        x.drop(1);
        for (int lane = 0; lane < 4; lane++) {
            due("no item, whatever it was", x.item(1, lane, 0, 1), NULL);
            due("no row to be heard", x.heard(0, 1, lane, 0, 1, 0), NULL);
            due("none for a film", x.film(0, 1, 1, lane, 0), NULL);
        }
        due("none to be copied", x.copy(1, 0, 3, 0, 1), NULL);
        due("none to copy to", x.copy(3, 0, 1, 0, 1), NULL);
        x.sheet(1, 2, 1);
        DUE.isTrue("anew it is 0", isZero(x, 1, 2, 0));
        write(x, 0, 0, "12");
        x.drop(1);
        dueDigits("another stays", x, 0, 0, "12");
    }

    private static void itemPlaces() {
        DUE.sentence("Item i of a SHEET, taken as a row of a LANE, becomes v, its lowest bits: 1."
                + " BAD; NULL; CAST; INDEX.");
        ThankingGifts x = reading();
        for (int lane = 0; lane < 4; lane++) {
            write(x, 3, lane, "111111111111111111111111");
            for (int i : new int[] {-1, 24, 25, LOW, HIGH}) {
                due("item " + i, x.item(3, lane, i, 2), INDEX);
            }
            due("the first", x.item(3, lane, 0, 3), 1);
            due("the last", x.item(3, lane, 23, 4), 1);
            dueDigits("just these", x, 3, lane, "311111111111111111111114");
        }
    }

    private static void lowestBits() {
        DUE.sentence("becomes v, its lowest bits");
        int[] bits = {8, 16, 32, 64};
        for (int lane = 0; lane < 4; lane++) {
            ThankingGifts x = reading();
            x.sheet(0, lane, 1);
            for (int bit = 3; bit < 64; bit++) {
                x.item(0, lane, 0, 5 ^ 1L << bit);
                due("lane " + lane + ", bit " + bit, digit(x, 0, lane, 0), lowestOf(bit, bits[lane]));
            }
            x.item(0, lane, 0, bits[lane] == 64 ? 5 : 5 - (1L << bits[lane]));
            due("lane " + lane + ", below 0", digit(x, 0, lane, 0), 5);
            x.item(0, lane, 0, -1);
            due("lane " + lane + ", -1", x.heard(0, 0, lane, 0, 1, 0), 0);
            x.item(0, lane, 0, Long.MIN_VALUE);
            due("lane " + lane + ", the lowest long", isZero(x, 0, lane, 0) ? 1 : 0, lane == 3 ? 0 : 1);
        }
    }

    /** What is read of 5 with one bit more: 5, if the LANE cuts the bit off; 13 and above are read as 0. */
    private static int lowestOf(int bit, int bits) {
        return bit >= bits ? 5 : 0;
    }

    private static void takenAsAnotherLane() {
        DUE.sentence("CAST -12 (of SHEETS another LANE)");
        for (int lane = 0; lane < 4; lane++) {
            ThankingGifts x = reading();
            write(x, 0, lane, "12345678");
            for (int as = 0; as < 4; as++) {
                due("item", x.item(0, as, 0, 1), as == lane ? 1 : CAST);
                due("heard", x.heard(0, 0, as, 7, 1, 1), as == lane ? 4 : CAST);
                due("film", x.film(0, 1, 0, as, 6), as == lane ? 1 : CAST);
            }
            dueDigits("but for these the same", x, 0, lane, "12345698");
        }
    }

    private static void heardForNights() {
        DUE.sentence("HEARD: a row tells what is LEFT of a THING behind each of the next n NIGHTS (1 .. 8)");
        ThankingGifts x = Due.houseOf("0:0;f020");
        x.sheet(0, 0, 9);
        x.film(0, 9, 0, 0, 0);
        due("0", x.heard(0, 0, 0, 0, 0, 0), BAD);
        due("-1", x.heard(0, 0, 0, 0, -1, 0), BAD);
        for (int n = 1; n <= 8; n++) {
            due("n " + n, x.heard(0, 0, 0, 0, n, 0), 2);
            x.item(0, 0, n - 1, 77);
            due("the last is off", x.heard(0, 0, 0, 0, n, 0), 0);
            x.item(0, 0, n - 1, 20 - n);
        }
        due("9", x.heard(0, 0, 0, 0, 9, 0), BAD);
        due("9, how dear", x.heard(0, 0, 0, 0, 9, 1), BAD);
        due("8, from 1 on: a night too late", x.heard(0, 0, 0, 1, 8, 0), 0);
        x.nights(1);
        due("a night later", x.heard(0, 0, 0, 1, 8, 0), 2);
        due("and from 0 on", x.heard(0, 0, 0, 0, 8, 0), 0);
    }

    private static void heardPlaces() {
        DUE.sentence("HEARD by n items of a SHEET taken as a row of a LANE, from item i on");
        ThankingGifts x = reading();
        x.sheet(0, 1, 24);
        int zeros = 31;
        due("the first", x.heard(1, 0, 1, 0, 1, 0), zeros);
        due("the last", x.heard(1, 0, 1, 23, 1, 0), zeros);
        due("the last eight", x.heard(1, 0, 1, 16, 8, 0), zeros);
        due("one less", x.heard(1, 0, 1, 17, 8, 0), INDEX);
        for (int i : new int[] {-1, 24, 25, LOW, HIGH, HIGH - 7}) {
            due("from " + i, x.heard(1, 0, 1, i, 1, 0), INDEX);
            due("eight from " + i, x.heard(1, 0, 1, i, 8, 1), INDEX);
        }
        x.sheet(0, 1, 0);
        due("of no items", x.heard(1, 0, 1, 0, 1, 0), INDEX);
        x.sheet(0, 1, 7);
        due("eight of seven", x.heard(1, 0, 1, 0, 8, 0), INDEX);
        due("seven of seven", x.heard(1, 0, 1, 0, 7, 0), zeros);
    }

    private static void heardKinds() {
        DUE.sentence("KINDS (a set) of it by which it would be so");
        ThankingGifts x = Due.houseInNight("0:0;f010", 9);
        x.sheet(0, 2, 1);
        due("1 is left, night 9: 0 by all", x.heard(0, 0, 2, 0, 1, 0), 31);
        x.item(0, 2, 0, 1);
        due("1 by none", x.heard(0, 0, 2, 0, 1, 0), 0);
        ThankingGifts y = Due.houseInNight("0:0;f010", 8);
        y.sheet(0, 2, 1);
        y.item(0, 2, 0, 2);
        due("2 is left, night 8: 2 by turnabout and hum", y.heard(0, 0, 2, 0, 1, 0), 8 + 16);
        y.item(0, 2, 0, 1);
        due("1 by plain, fulsome, curt", y.heard(0, 0, 2, 0, 1, 0), 1 + 2 + 4);
        due("its own kind is told apart only so", y.gift(0, 0), 1);
    }

    private static void heardDears() {
        DUE.sentence("by how much DEAR (1 .. 9, a set)");
        ThankingGifts x = reading();
        x.sheet(0, 0, 2);
        for (int dear = 1; dear <= 9; dear++) {
            x.item(0, 0, 0, 10 - dear);
            due("dear by " + dear, x.heard(0, 0, 0, 0, 1, 1), 1 << dear);
        }
        x.item(0, 0, 0, 10);
        due("dear by 0 is none", x.heard(0, 0, 0, 0, 1, 1), 0);
        x.item(0, 0, 0, 0);
        due("dear by 10 is none", x.heard(0, 0, 0, 0, 1, 1), 0);
        due("nothing left: by all", x.heard(1, 0, 0, 0, 2, 1), 1022);
        x.nights(1);
        due("9 left, 0 behind it", x.heard(0, 0, 0, 0, 1, 1), 1 << 9);
        x.nights(1);
        due("8 left, 0 behind it", x.heard(0, 0, 0, 0, 1, 1), 1 << 9 | 1 << 8);
    }

    private static void heardLeftAsItIs() {
        DUE.sentence("by how much DEAR (1 .. 9, a set), LEFT now as it is");
        ThankingGifts x = Due.houseOf("0:0;c090");
        x.sheet(0, 0, 1);
        x.item(0, 0, 0, 45);
        due("half of 90, however dear", x.heard(0, 0, 0, 0, 1, 1), 1022);
        due("nothing is changed", x.gift(0, 4), 90);
        due("dear as it is", x.gift(0, 2), 9);
        due("of its kind", x.gift(0, 0), 2);
    }

    private static void heardWideItems() {
        ThankingGifts x = reading();
        x.sheet(0, 3, 1);
        for (long wide : new long[] {1L << 32, 1L << 8, 1L << 16, Long.MIN_VALUE}) {
            x.item(0, 3, 0, 9 + wide);
            due("not by its lowest bits alone: 9 and " + wide, x.heard(0, 0, 3, 0, 1, 0), 0);
        }
        x.item(0, 3, 0, -9);
        due("-9 is not 9", x.heard(0, 0, 3, 0, 1, 0), 0);
    }

    private static void filmForNights() {
        DUE.sentence("What is LEFT of a THING behind 1, 2, .. n NIGHTS (1 .. 24), an item each,"
                + " comes to a SHEET likewise: n.");
        ThankingGifts x = reading();
        x.sheet(0, 0, 24);
        due("-1", x.film(0, -1, 0, 0, 0), BAD);
        due("0", x.film(0, 0, 0, 0, 0), BAD);
        due("25", x.film(0, 25, 0, 0, 0), BAD);
        due("1", x.film(0, 1, 0, 0, 0), 1);
        dueDigits("one item, behind one night", x, 0, 0, "900000");
        due("24", x.film(0, 24, 0, 0, 0), 24);
        dueDigits("all items", x, 0, 0, "987654321000000000000000");
        due("it is night 0", x.count(2), 0);
        due("10 are left", x.gift(0, 4), 10);
    }

    private static void filmPlaces() {
        DUE.sentence("comes to a SHEET likewise");
        ThankingGifts x = reading();
        write(x, 0, 3, "111111111111111111111111");
        due("24 from 1 on", x.film(0, 24, 0, 3, 1), INDEX);
        due("one from 24 on", x.film(0, 1, 0, 3, 24), INDEX);
        due("from -1 on", x.film(0, 1, 0, 3, -1), INDEX);
        due("from the highest on", x.film(0, 24, 0, 3, HIGH), INDEX);
        due("from the lowest on", x.film(0, 24, 0, 3, LOW), INDEX);
        dueDigits("nothing came", x, 0, 3, "111111111111111111111111");
        due("one to the last", x.film(0, 1, 0, 3, 23), 1);
        due("three from 10 on", x.film(0, 3, 0, 3, 10), 3);
        dueDigits("just these", x, 0, 3, "111111111198711111111119");
        x.sheet(1, 0, 0);
        due("to no items", x.film(0, 1, 1, 0, 0), INDEX);
    }

    private static void filmAll24() {
        DUE.sentence("behind 1, 2, .. n NIGHTS (1 .. 24)");
        for (int lane = 0; lane < 4; lane++) {
            ThankingGifts x = Due.houseOf("0:0;f090,t080,h090");
            int[] kinds = {2, 8, 16};
            for (int t = 0; t < 3; t++) {
                x.sheet(t, lane, 24);
                due("24", x.film(t, 24, t, lane, 0), 24);
            }
            for (int i = 0; i < 24; i += 8) {
                for (int t = 0; t < 3; t++) {
                    due("as it came, of " + t + " from " + i, x.heard(t, t, lane, i, 8, 0) & kinds[t], kinds[t]);
                }
                x.nights(8);
            }
        }
    }

    private static void copyPlaces() {
        DUE.sentence("BAD; NULL (either); CAST: of unlike LANES; INDEX.");
        ThankingGifts x = reading();
        write(x, 0, 0, "123456");
        write(x, 1, 0, "9876");
        int[][] over = {{-1, 0, 1}, {0, -1, 1}, {0, 0, -1}, {0, 0, 5}, {3, 0, 4}, {6, 0, 1}, {0, 4, 1}, {0, 1, 4},
            {7, 0, 0}, {0, 5, 0}, {HIGH, 0, 1}, {0, HIGH, 1}, {0, 0, HIGH}, {HIGH, HIGH, HIGH}, {LOW, LOW, LOW},
            {1, 1, LOW}, {HIGH, 0, 0}, {0, HIGH, 0}};
        for (int[] row : over) {
            due("from " + row[0] + " to " + row[1] + ", " + row[2], x.copy(0, row[0], 1, row[1], row[2]), INDEX);
        }
        dueDigits("nothing came", x, 1, 0, "9876");
        due("the last to the last", x.copy(0, 5, 1, 3, 1), 1);
        due("as many as there are", x.copy(0, 1, 1, 0, 3), 3);
        dueDigits("came", x, 1, 0, "2346");
        dueDigits("and stay where they were", x, 0, 0, "123456");
        due("more than it has", x.copy(1, 0, 0, 0, 5), INDEX);
        due("all it has", x.copy(1, 0, 0, 2, 4), 4);
        dueDigits("came back", x, 0, 0, "122346");
    }

    private static void copyNone() {
        DUE.sentence("n items of a SHEET from i on come to another one (or the same) from j on,"
                + " as if all were taken ahead: n.");
        ThankingGifts x = reading();
        write(x, 0, 2, "123");
        x.sheet(1, 2, 0);
        due("none", x.copy(0, 0, 1, 0, 0), 0);
        due("none, from the end on", x.copy(0, 3, 1, 0, 0), 0);
        due("none, from behind the end on", x.copy(0, 4, 1, 0, 0), INDEX);
        due("none, to behind the end", x.copy(0, 3, 1, 1, 0), INDEX);
        due("one, to no items", x.copy(0, 0, 1, 0, 1), INDEX);
        due("none, of none, to itself", x.copy(1, 0, 1, 0, 0), 0);
        dueDigits("as it was", x, 0, 2, "123");
    }

    private static void copyAsIfTakenAhead() {
        DUE.sentence("as if all were taken ahead");
        for (int lane = 0; lane < 4; lane++) {
            ThankingGifts x = reading();
            write(x, 0, lane, "123456789");
            due("upwards", x.copy(0, 0, 0, 1, 8), 8);
            dueDigits("upwards", x, 0, lane, "112345678");
            due("downwards", x.copy(0, 2, 0, 0, 7), 7);
            dueDigits("downwards", x, 0, lane, "234567878");
            due("onto itself", x.copy(0, 0, 0, 0, 9), 9);
            dueDigits("onto itself", x, 0, lane, "234567878");
            due("upwards by three", x.copy(0, 0, 0, 3, 6), 6);
            dueDigits("upwards by three", x, 0, lane, "234234567");
        }
    }

    private static void copyToAnother() {
        ThankingGifts x = reading();
        String all = "987654321123456789987654";
        write(x, 2, 3, all);
        x.sheet(3, 3, 24);
        due("all 24", x.copy(2, 0, 3, 0, 24), 24);
        dueDigits("all 24", x, 3, 3, all);
        due("one more", x.copy(2, 0, 3, 0, 25), INDEX);
        x.item(2, 3, 0, 1);
        due("they are apart", digit(x, 3, 3, 0), 9);
    }

    private static void copyOfUnlikeLanes() {
        DUE.sentence("CAST: of unlike LANES");
        for (int lane = 0; lane < 4; lane++) {
            for (int other = 0; other < 4; other++) {
                ThankingGifts x = reading();
                write(x, 0, lane, "12");
                write(x, 1, other, "34");
                due("lanes " + lane + ", " + other, x.copy(0, 0, 1, 0, 2), lane == other ? 2 : CAST);
                due("none of them", x.copy(0, 0, 1, 0, 0), lane == other ? 0 : CAST);
                due("over the end", x.copy(0, 0, 1, 0, 3), lane == other ? INDEX : CAST);
                dueDigits("came or not", x, 1, other, lane == other ? "12" : "34");
            }
        }
    }
}
