import java.util.ArrayList;
import java.util.List;

/** Collects the answers that are not as due, and what the tests share. */
final class Due {
    private static final int MOST_TOLD = 40;
    private final List<String> wrong = new ArrayList<>();
    private int asked;

    void is(String call, long got, long want) {
        asked++;
        if (got != want) {
            wrong.add(call + " answered " + got + ", due is " + want);
        }
    }

    void isTrue(String claim, boolean holds) {
        asked++;
        if (!holds) {
            wrong.add("not so: " + claim);
        }
    }

    boolean allWell() {
        return wrong.isEmpty();
    }

    /** Ends the program with 1 if something was wrong. */
    void close(String name) {
        for (int i = 0; i < wrong.size() && i < MOST_TOLD; i++) {
            System.out.println(name + ": " + wrong.get(i));
        }
        System.out.println(name + ": " + asked + " looked at, " + wrong.size() + " wrong");
        if (!allWell()) {
            System.exit(1);
        }
    }

    static void type(ThankingGifts x, String text) {
        for (int i = 0; i < text.length(); i++) {
            x.type(text.charAt(i));
        }
    }

    static int house(ThankingGifts x, String text) {
        type(x, text);
        return x.house();
    }

    static ThankingGifts houseOf(String text) {
        ThankingGifts x = new ThankingGifts();
        if (house(x, text) < 0) {
            throw new IllegalArgumentException("no house: " + text);
        }
        return x;
    }
}
