import java.io.IOException;
import java.nio.file.Files;
import java.nio.file.Path;
import java.util.ArrayList;
import java.util.Arrays;
import java.util.List;
import java.util.function.IntUnaryOperator;
import java.util.regex.Matcher;
import java.util.regex.Pattern;

/**
 * The document's sentences, beside the answers that are due by them: each test says first which promise it is of, and
 * which sentence it stands for. A sentence that the document has not, and one of the document's, from "What it is" to
 * "Not promised", that no test stands for, are faults, too.
 */
final class Sentences {
    private static final Path DOCUMENT = Path.of("../shared/DOC.md");
    private static final Pattern PROMISE = Pattern.compile("## Promise (\\d+): .*");
    private static final int ELSEWHERE = 0;

    private final Checks checks = new Checks();
    private final StringBuilder document = new StringBuilder();
    /** Of each character of the document: the promise in whose section it stands, and whether a test stands for it. */
    private final List<Integer> sections = new ArrayList<>();
    private boolean[] told;
    private String now = "";

    Sentences() {
        if (!Files.exists(DOCUMENT)) {
            System.out.println("there is no " + DOCUMENT + ": the sentences are not looked up");
            told = new boolean[0];
            return;
        }
        try {
            read(Files.readAllLines(DOCUMENT));
        } catch (IOException e) {
            throw new IllegalStateException(e);
        }
        told = new boolean[document.length()];
    }

    /** Takes in all but the face, of which FaceTest tells: without headings, marks and signatures. */
    private void read(List<String> lines) {
        int section = ELSEWHERE;
        boolean taken = false;
        for (String line : lines) {
            Matcher promise = PROMISE.matcher(line);
            if (line.startsWith("## ")) {
                section = promise.matches() ? Integer.parseInt(promise.group(1)) : ELSEWHERE;
                taken = !line.equals("## The public face");
            } else if (taken && !line.startsWith("```")) {
                String signature = section == ELSEWHERE ? "^(I|II|III|IV)\\. " : "^`[^`]*`: ";
                String text = line.replaceAll(signature, "") + " ";
                String squeezed = text.replaceAll("\\s+", " ").replaceAll("^ ", "");
                document.append(squeezed);
                for (int k = 0; k < squeezed.length(); k++) {
                    sections.add(section);
                }
            }
        }
    }

    /** What is asked from here on is asked by this sentence, as this promise has it. */
    void says(int promise, String sentence) {
        now = "promise " + promise + ", '" + sentence + "': ";
        if (told.length == 0) {
            return;
        }
        boolean found = false;
        for (int at = document.indexOf(sentence); at >= 0; at = document.indexOf(sentence, at + 1)) {
            // a promise's own section is told by its number alone, the Terms by any
            if (sections.get(at) == ELSEWHERE || sections.get(at) == promise) {
                Arrays.fill(told, at, at + sentence.length(), true);
                found = true;
            }
        }
        checks.due(now + "stands in the document", 1, found ? 1 : 0);
    }

    void due(String call, long want, long got) {
        checks.due(now + call, want, got);
    }

    /** An argument's range: its ends are let in (one answer is due), what lies beyond them is not (another one is). */
    void range(String call, int least, int most, int letIn, int beyond, IntUnaryOperator answer) {
        for (int value : new int[] {least, least + (most - least) / 2, most}) {
            due(call + " by " + value, letIn, answer.applyAsInt(value));
        }
        for (int value : new int[] {least - 1, most + 1, Integer.MIN_VALUE, Integer.MAX_VALUE}) {
            due(call + " by " + value + ", beyond", beyond, answer.applyAsInt(value));
        }
    }

    void close(String name) {
        now = "";
        for (int at = 0; at < told.length; at++) {
            int stop = at;
            while (stop < told.length && !told[stop]) {
                stop++;
            }
            String left = document.substring(at, stop).trim();
            if (!left.isEmpty()) {
                String ahead = document.substring(Math.max(0, at - 40), at);
                checks.due("tests that stand for '" + left + "' behind '" + ahead + "'", 1, 0);
            }
            at = stop;
        }
        checks.close(name);
    }
}
