import java.util.ArrayList;
import java.util.List;
import java.util.regex.Matcher;
import java.util.regex.Pattern;

/**
 * "The public face" word for word, with the names of its arguments and in its order, and what "the
 * interface says" ahead of its calls; both are read from the document and looked for in the class.
 */
public final class SourceTest {
    private static final Check CHECK = new Check("SourceTest");
    private static final Pattern FACE_LINE = Pattern.compile(
            "(?m)^    public (\\w+ )*\\w+\\(.*\\).*;$");
    private static final Pattern AHEAD = Pattern.compile(
            "(?m)^Ahead of the calls (.*) the interface says: (---- .*)\\.$");
    private static final Pattern CALL = Pattern.compile("`(\\w+)`");
    private static final int CALLS = 53;

    private final String source = Source.read(Source.CLASS);
    private final String inOneLine = source.replaceAll("\\s+", " ");
    private final String document = Source.read(Source.DOCUMENT);

    public static void main(String[] args) {
        SourceTest test = new SourceTest();
        test.theFaceStandsWordForWord();
        test.theInterfaceSaysSo();
        CHECK.end();
    }

    private void theFaceStandsWordForWord() {
        CHECK.is("the class", inOneLine.contains("public final class NappingViews {"), true);
        Matcher line = FACE_LINE.matcher(document);
        int found = 0;
        int last = -1;
        while (line.find()) {
            String face = line.group().trim().replaceAll(";$", " {");
            int at = inOneLine.indexOf(face);
            CHECK.is("there is, in its order: " + face, at > last, true);
            last = Math.max(last, at);
            found++;
        }
        CHECK.is("calls, and the constructor, in the document", found, CALLS + 1);
    }

    // A call belongs to the last "// ----" line ahead of it.
    private void theInterfaceSaysSo() {
        Matcher ahead = AHEAD.matcher(document);
        List<String> told = new ArrayList<>();
        while (ahead.find()) {
            Matcher call = CALL.matcher(ahead.group(1));
            while (call.find()) {
                CHECK.is("ahead of " + call.group(1), saidAheadOf(call.group(1)), ahead.group(2));
                told.add(call.group(1));
            }
        }
        CHECK.is("calls that something is said ahead of", told.size(), CALLS);
    }

    private String saidAheadOf(String call) {
        Matcher declared = Pattern.compile("\n    public \\w+ " + call + "\\(").matcher(source);
        if (!declared.find()) {
            return "no such call";
        }
        int from = source.lastIndexOf("\n    // ---- ", declared.start());
        if (from < 0) {
            return "nothing";
        }
        return source.substring(from, source.indexOf('\n', from + 1)).trim().substring(3);
    }
}
