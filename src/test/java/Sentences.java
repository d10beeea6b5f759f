import java.io.IOException;
import java.io.UncheckedIOException;
import java.nio.file.Files;
import java.nio.file.Path;
import java.util.ArrayList;
import java.util.List;
import java.util.Map;
import java.util.TreeMap;

/**
 * The sentences that the boundary tests quote, and the document that they stand in: a quoted
 * sentence must stand there, and what stands there must be quoted by a test.
 */
final class Sentences {
    /** The parts 'What it is' and 'Terms' of the document; the promises have their own numbers. */
    static final int WHAT_IT_IS = -1;
    static final int TERMS = 0;
    private static final int OTHER = -2;

    private static final Path DOCUMENT = Path.of("../shared/DOC.md");

    /** What tells no boundary: how the document speaks, and what later sentences tell in full. */
    private static final String[] NO_BOUNDARY = {
        "The core of an oscilloscope with two channels.",
        "what later calls answer is free.",
        "A trigger condition (edge, width, runt or sequence) watches the samples as they come in;",
        "each trigger catches a record with samples before and after it into segmented memory,",
        "Records can be read whole or decimated,",
        "What was caught is what the condition tells, sample by sample.",
        "The calls are settings, as on a front panel,",
        "Conditions.",
        "At some samples it fires.",
        "Records.",
        "The trace.",
        "Ahead of the calls ",
    };

    private static final Map<Integer, List<String>> QUOTED = new TreeMap<>();

    private Sentences() {
    }

    /** Notes a sentence quoted from a promise or a part; answers how the texts of its checks begin. */
    static String quote(int promise, String words) {
        QUOTED.computeIfAbsent(promise, key -> new ArrayList<>()).add(words);
        String part = promise == WHAT_IT_IS ? "What it is" : promise == TERMS ? "Terms" : "Promise " + promise;
        return part + ", '" + words + "': ";
    }

    /** Compares what was quoted with the document, where that is at hand. */
    static void compareWithDocument() {
        if (!Files.exists(DOCUMENT)) {
            System.out.println(DOCUMENT + " is not there: the sentences are not compared with it");
            return;
        }
        Map<Integer, List<String>> parts = readParts();
        for (Map.Entry<Integer, List<String>> entry : QUOTED.entrySet()) {
            String whole = String.join(" ", parts.getOrDefault(entry.getKey(), List.of()));
            for (String words : entry.getValue()) {
                Check.due("part " + entry.getKey() + " of the document has '" + words + "'", whole.contains(words), true);
            }
        }
        for (Map.Entry<Integer, List<String>> entry : parts.entrySet()) {
            List<String> quoted = QUOTED.getOrDefault(entry.getKey(), List.of());
            for (String sentence : entry.getValue()) {
                Check.due("a test quotes part " + entry.getKey() + ", '" + sentence + "'", isQuoted(sentence, quoted), true);
            }
        }
    }

    private static boolean isQuoted(String sentence, List<String> quoted) {
        for (String opening : NO_BOUNDARY) {
            if (sentence.startsWith(opening)) {
                return true;
            }
        }
        for (String words : quoted) {
            if (sentence.contains(words) || words.contains(sentence)) {
                return true;
            }
        }
        return false;
    }

    /** The sentences of 'Terms' and of each promise, without marks; the list of parameters has one a line. */
    private static Map<Integer, List<String>> readParts() {
        Map<Integer, List<String>> parts = new TreeMap<>();
        int part = OTHER;
        for (String line : readLines()) {
            if (line.startsWith("#")) {
                part = partOf(line);
            } else if (part != OTHER && !line.isBlank()) {
                parts.computeIfAbsent(part, key -> new ArrayList<>()).addAll(split(line));
            }
        }
        return parts;
    }

    private static int partOf(String heading) {
        if (heading.equals("## What it is")) {
            return WHAT_IT_IS;
        }
        if (heading.equals("## Terms")) {
            return TERMS;
        }
        String promise = "## Promise ";
        if (heading.startsWith(promise)) {
            return Integer.parseInt(heading.substring(promise.length(), heading.indexOf(':')));
        }
        return OTHER;
    }

    private static List<String> split(String line) {
        String prose = line.startsWith("- ") ? line.substring(2) : line;
        int behindFace = line.startsWith("`") ? line.indexOf("`: ") + 3 : 0;
        return List.of(prose.substring(behindFace).replace("`", "").split("(?<=[.)]) (?=[A-Z(])|(?<=;) "));
    }

    private static List<String> readLines() {
        try {
            return Files.readAllLines(DOCUMENT);
        } catch (IOException e) {
            throw new UncheckedIOException(e);
        }
    }
}
