import java.nio.file.Files;
import java.nio.file.Path;
import java.util.ArrayList;
import java.util.Arrays;
import java.util.List;

/** The document's boundary cases, by its sentences; and that each of its sentences has a test. */
public final class BoundsTest {
    private static final Path DOCUMENT = Path.of("../shared/DOC.md");
    private static final int PROMISES = 34;
    /** Words that name no case: what stands between the parts, and how the interface is laid out. */
    private static final String NO_CASE = "=+|Ahead of the calls [`\\w, ]+ the interface says: ---- [\\w, ]+\\.";

    private static int wrong = 0;

    private static void tell(String fault) {
        wrong++;
        System.out.println(fault);
    }

    /** The words of the terms (at 0) and of each promise, in one line each. */
    private static String[] sections() throws Exception {
        StringBuilder[] texts = new StringBuilder[PROMISES + 1];
        for (int p = 0; p <= PROMISES; p++) texts[p] = new StringBuilder();
        int section = -1;
        for (String line : Files.readAllLines(DOCUMENT)) {
            if (line.startsWith("#")) section = sectionOf(line);
            else if (section >= 0 && !line.startsWith("```")) texts[section].append(line).append(' ');
        }
        String[] sections = new String[PROMISES + 1];
        for (int p = 0; p <= PROMISES; p++) {
            String text = texts[p].toString().replaceAll("\\s+", " ").trim();
            sections[p] = p == Bounds.TERMS ? text.replaceAll(NO_CASE, "") : text.replaceFirst("^`[^`]*`: ", "");
        }
        return sections;
    }

    private static int sectionOf(String heading) {
        if (heading.startsWith("## Promise ")) return Integer.parseInt(heading.replaceAll("\\D+(\\d+).*", "$1"));
        return heading.equals("## What it is") || heading.equals("## Terms") ? Bounds.TERMS : -1;
    }

    private static void compareWithDocument(List<Bounds.Quote> quotes) throws Exception {
        if (!Files.isReadable(DOCUMENT)) {
            System.out.println("there is no " + DOCUMENT + ": the tests' quotes were not compared with it");
            return;
        }
        String[] sections = sections();
        boolean[][] quoted = new boolean[PROMISES + 1][];
        for (int p = 0; p <= PROMISES; p++) quoted[p] = new boolean[sections[p].length()];
        for (Bounds.Quote quote : quotes) {
            int at = sections[quote.promise()].indexOf(quote.words());
            if (at < 0) tell("not in the document: " + quote);
            else Arrays.fill(quoted[quote.promise()], at, at + quote.words().length(), true);
        }
        for (int p = 0; p <= PROMISES; p++) {
            StringBuilder left = new StringBuilder();
            for (int i = 0; i < quoted[p].length; i++) if (!quoted[p][i]) left.append(sections[p].charAt(i));
            if (!left.toString().isBlank()) tell("promise " + p + ", words without a test: " + left.toString().trim());
        }
    }

    public static void main(String[] args) throws Exception {
        List<Bounds.Quote> quotes = new ArrayList<>();
        for (Bounds part : new Bounds[] {new CalendarBounds(), new JobBounds(), new SchedulerBounds(), new LetterBounds(), new SeenBounds()}) {
            part.all();
            part.endSentence();
            wrong += part.wrong;
            quotes.addAll(part.quotes);
        }
        compareWithDocument(quotes);
        System.out.println(quotes.size() + " sentences: " + (wrong == 0 ? "all answers are as due" : wrong + " faults"));
        if (wrong != 0) System.exit(1);
    }
}
