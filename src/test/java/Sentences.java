import java.io.IOException;
import java.io.UncheckedIOException;
import java.nio.file.Files;
import java.nio.file.Path;
import java.util.BitSet;
import java.util.LinkedHashMap;
import java.util.Map;
import java.util.regex.Matcher;
import java.util.regex.Pattern;

/** The sentences of the document, each with a test of its own; those that no test quotes are told. */
final class Sentences {
    private static final Path DOC = Path.of("../shared/DOC.md");
    private static final String TERMS = "terms";
    private static final String USE = "use";
    private static final Map<String, String> PARTS = parts();
    private static final Map<String, BitSet> QUOTED = new LinkedHashMap<>();

    private Sentences() {
    }

    static void of(int promise, String quote, Runnable test) {
        quote(String.valueOf(promise), quote, test);
    }

    static void term(String quote, Runnable test) {
        quote(TERMS, quote, test);
    }

    /** Of how an object is used. */
    static void use(String quote, Runnable test) {
        quote(USE, quote, test);
    }

    private static void quote(String part, String quote, Runnable test) {
        Check.about(part + ": \"" + quote + "\": ");
        String text = PARTS.getOrDefault(part, "");
        int at = text.indexOf(quote);
        if (at < 0) {
            Check.tell("is not in the document");
        }
        while (at >= 0) {
            QUOTED.computeIfAbsent(part, p -> new BitSet()).set(at, at + quote.length());
            at = text.indexOf(quote, at + 1);
        }
        int before = Check.count();
        test.run();
        if (Check.count() == before) {
            Check.tell("is not tested");
        }
        Check.about("");
    }

    /** Tells each part of the document's promises and terms that no test quotes. */
    static void end() {
        Check.is("the use, the terms and 77 promises", 79, PARTS::size);
        PARTS.forEach((part, text) -> {
            BitSet quoted = QUOTED.getOrDefault(part, new BitSet());
            StringBuilder left = new StringBuilder();
            for (int i = 0; i < text.length(); i++) {
                left.append(quoted.get(i) ? '|' : text.charAt(i));
            }
            String letters = left.toString().replaceAll("\\|+", "|").replaceAll("[^a-zA-Z0-9|]+", " ").strip();
            Check.is(part + ": no test quotes " + letters, 1, () -> Check.of(letters.matches("[| ]*")));
        });
    }

    private static Map<String, String> parts() {
        Map<String, String> parts = new LinkedHashMap<>();
        for (String part : document().split("\n## ")) {
            Matcher promise = Pattern.compile("Promise (\\d+): .*?\n+`.*?`: (.*)", Pattern.DOTALL).matcher(part);
            if (promise.matches()) {
                parts.put(promise.group(1), oneLine(promise.group(2)));
            }
            if (part.startsWith("What it is\n")) {
                parts.put(USE, oneLine(part.substring(part.lastIndexOf("\n\n", part.length() - 3))));
            }
            if (part.startsWith("Terms\n")) {
                parts.put(TERMS, oneLine(withoutHeadings(part)));
            }
        }
        return parts;
    }

    /** The places of the calls in the interface are looked at by FaceTest. */
    private static String withoutHeadings(String terms) {
        return terms.replaceAll("(?m)^(Terms|### .*|Tools, readings|Blocks, calibration|Types, pieces|Records, charts)$",
                "").replaceAll("(?m)^Ahead of the calls .*$", "");
    }

    private static String oneLine(String text) {
        return text.replaceAll("\\s+", " ").strip();
    }

    private static String document() {
        try {
            return Files.readString(DOC);
        } catch (IOException e) {
            throw new UncheckedIOException(e);
        }
    }
}
