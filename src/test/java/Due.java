import java.io.IOException;
import java.io.UncheckedIOException;
import java.nio.file.Files;
import java.nio.file.Path;
import java.util.ArrayList;
import java.util.List;

/** Collects the answers that are not as due, and what the tests share. */
final class Due {
    private static final int MOST_TOLD = 40;
    private final List<String> wrong = new ArrayList<>();
    private int asked;
    private String document;
    private String said = "";

    /** What follows is a test of these words, which must stand in the document. */
    void sentence(String words) {
        if (document == null) {
            document = readDocument();
        }
        said = "";
        isTrue("the document says '" + words + "'", document.contains(words));
        said = "'" + words + "': ";
    }

    void is(String call, long got, long want) {
        asked++;
        if (got != want) {
            wrong.add(said + call + " answered " + got + ", due is " + want);
        }
    }

    void isTrue(String claim, boolean holds) {
        asked++;
        if (!holds) {
            wrong.add(said + "not so: " + claim);
        }
    }

    boolean allWell() {
        return wrong.isEmpty();
    }

    /** Ends the program with 1 if something was wrong. */
    void close(String name) {
        for (int i = 0; i < wrong.size() && i < MOST_TOLD; i++) {
            System.out.println(name + ": " + wrong.get(i));
        }
        System.out.println(name + ": " + asked + " looked at, " + wrong.size() + " wrong");
        if (!allWell()) {
            System.exit(1);
        }
    }

    private static String readDocument() {
        try {
            return Files.readString(Path.of("../shared/DOC.md")).replaceAll("\\s+", " ");
        } catch (IOException e) {
            throw new UncheckedIOException(e);
        }
    }

    static void type(ThankingGifts x, String text) {
        for (int i = 0; i < text.length(); i++) {
            x.type(text.charAt(i));
        }
    }

    static int house(ThankingGifts x, String text) {
        type(x, text);
        return x.house();
    }

    static ThankingGifts houseOf(String text) {
        ThankingGifts x = new ThankingGifts();
        if (house(x, text) < 0) {
            throw new IllegalArgumentException("no house: " + text);
        }
        return x;
    }

    /** In as few calls as can be, for an object is used for 512 of them. */
    static ThankingGifts houseInNight(String text, int night) {
        ThankingGifts x = houseOf(text);
        for (int left = night; left > 0; left -= 40) {
            x.nights(Math.min(left, 40));
        }
        return x;
    }
}
