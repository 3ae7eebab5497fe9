import java.io.IOException;
import java.nio.file.Files;
import java.nio.file.Path;
import java.util.HashSet;
import java.util.LinkedHashMap;
import java.util.Map;
import java.util.Set;

/** Tests by sentences: each names a promise, and words of the document that stand there or in its terms. */
final class Sentences {
    private static final Path DOCUMENT = Path.of("../shared/DOC.md");
    private static final String[] FOR_ALL = {"What it is", "Terms"};

    private final String test;
    private final Map<String, String> sections = sections();
    private final Set<String> tested = new HashSet<>();
    private String now;
    private int answers;
    private int wrong;

    Sentences(String test) {
        this.test = test;
    }

    /** Runs the one test of these words for this promise. */
    void holds(int promise, String words, Runnable asks) {
        now = "promise " + promise + ", \"" + words + "\"";
        if (!tested.add(now)) {
            tellWrong("has a test already");
        }
        if (!stands(promise, words)) {
            tellWrong("does not stand in the document");
        }
        int before = answers;
        try {
            asks.run();
        } catch (RuntimeException e) {
            tellWrong("ended with " + e);
        }
        if (answers == before) {
            tellWrong("is not asked for");
        }
    }

    void due(String call, long got, long want) {
        answers++;
        if (got != want) {
            tellWrong(call + " answered " + got + ", due is " + want);
        }
    }

    void dueSame(String what, Object got, Object want) {
        answers++;
        if (!got.equals(want)) {
            tellWrong(what + ":\n  " + got + "\n  due is\n  " + want);
        }
    }

    void end() {
        System.out.println(test + ": " + tested.size() + " sentences, " + answers + " answers, " + wrong + " wrong");
        if (wrong != 0 || answers == 0) {
            System.exit(1);
        }
    }

    private void tellWrong(String what) {
        wrong++;
        System.out.println(test + ": " + now + ": " + what);
    }

    private boolean stands(int promise, String words) {
        if (sections.isEmpty()) {
            return true;
        }
        for (Map.Entry<String, String> section : sections.entrySet()) {
            String title = section.getKey();
            boolean here = title.startsWith("Promise " + promise + ":");
            for (String all : FOR_ALL) {
                here |= title.equals(all);
            }
            if (here && section.getValue().contains(words)) {
                return true;
            }
        }
        return false;
    }

    private static Map<String, String> sections() {
        Map<String, String> sections = new LinkedHashMap<>();
        if (!Files.isReadable(DOCUMENT)) {
            System.out.println("There is no " + DOCUMENT + " here: the words of the tests are not looked up in it.");
            return sections;
        }
        for (String section : document().split("\n## ")) {
            String title = section.lines().findFirst().orElse("").strip();
            sections.put(title, section.replaceAll("\\s+", " "));
        }
        return sections;
    }

    private static String document() {
        try {
            return Files.readString(DOCUMENT);
        } catch (IOException e) {
            throw new IllegalStateException("the document is not to be read: " + DOCUMENT, e);
        }
    }
}
