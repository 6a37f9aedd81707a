import java.io.IOException;
import java.io.UncheckedIOException;
import java.nio.file.Files;
import java.nio.file.Path;
import java.util.NoSuchElementException;

/** Counts and prints the answers that are not as due, each with the document's sentence. */
final class Checks {
    /** What a call of look() or shown() that throws is written as: no answer is that low. */
    static final int THROWS = Integer.MIN_VALUE;

    private static final Path DOCUMENT = Path.of("../shared/DOC.md");

    private final String name;
    private final String document = document();
    private String sentence = "";
    private int failures;

    Checks(String name) {
        this.name = name;
    }

    private static String document() {
        if (!Files.exists(DOCUMENT)) {
            return null;
        }
        try {
            return Files.readString(DOCUMENT).replaceAll("\\s+", " ");
        } catch (IOException unreadable) {
            throw new UncheckedIOException(unreadable);
        }
    }

    /** What follows tests these words; it may be out of date where the document lacks them. */
    void sentence(String words) {
        sentence = words;
        if (document != null && !document.contains(words)) {
            System.out.println(name + ": the document no longer says \"" + words + "\"");
        }
    }

    void due(String call, long got, long want) {
        if (got != want) {
            failures++;
            if (failures <= 40) {
                System.out.println(name + ": " + call + " answered " + got + ", due is " + want
                        + (sentence.isEmpty() ? "" : " (\"" + sentence + "\")"));
            }
        }
    }

    void due(String call, boolean got, boolean want) {
        due(call, got ? 1 : 0, want ? 1 : 0);
    }

    /** Reads a stream that lacks its end alone; it must be right, and show so many. */
    ReelReader right(String what, BitText text, int shown) {
        ReelReader reader = BitText.readerOf(text.end());
        due(what + ": read()", reader.read(), shown);
        due(what + ": wrong()", reader.wrong(), ReelReader.NONE);
        return reader;
    }

    /** Reads a stream that must be wrong at a bit. */
    ReelReader wrongAt(String what, BitText text, int bit) {
        ReelReader reader = BitText.readerOf(text);
        reader.read();
        due(what + ": wrong()", reader.wrong(), bit);
        return reader;
    }

    /** Reads a stream that must be wrong so many bits behind where it says here(). */
    ReelReader wrongHere(String what, BitText text, int behind) {
        return wrongAt(what, text, text.place() + behind);
    }

    /** All that look() tells, from 0 on. */
    void looks(String what, ReelReader reader, int... wanted) {
        for (int i = 0; i < 8; i++) {
            due(what + ": look(" + i + ")", look(reader, i), wanted[i]);
        }
    }

    int failures() {
        return failures;
    }

    static int look(ReelReader reader, int what) {
        try {
            return reader.look(what);
        } catch (NoSuchElementException none) {
            return THROWS;
        }
    }

    static int shown(ReelReader reader, int k, int what) {
        try {
            return reader.shown(k, what);
        } catch (NoSuchElementException none) {
            return THROWS;
        }
    }

    void finish() {
        System.out.println(failures == 0 ? "all answers are as due" : failures + " answers are not as due");
        if (failures != 0) {
            System.exit(1);
        }
    }
}
