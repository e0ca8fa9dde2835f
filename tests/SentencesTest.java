import java.io.IOException;
import java.nio.file.Files;
import java.nio.file.Path;
import java.util.ArrayList;
import java.util.BitSet;
import java.util.LinkedHashMap;
import java.util.List;
import java.util.Map;
import java.util.regex.Matcher;
import java.util.regex.Pattern;
import java.util.stream.Stream;

/** Each sentence that a test quotes (Due.says) stands in DOC.md, once; and no sentence there is without a test. */
public final class SentencesTest {
    private static final Path DOCUMENT = Path.of("../shared/DOC.md"), TESTS = Path.of("tests");
    private static final Pattern QUOTE = Pattern.compile("Due\\.says\\(\"([^\"]*)\",\\s*((?:\"[^\"]*\"\\s*\\+?\\s*)+)\\)");
    /** No call tells a set; and what the interface says ahead of calls is read, not called. */
    private static final String[] NOT_TO_BE_TESTED = {"Sets are bits\\.", "Ahead of the calls [^:]*: ---- [a-z, ]*\\."};

    public static void main(String[] args) throws IOException {
        if (!Files.isReadable(DOCUMENT)) {
            System.out.println("there is no " + DOCUMENT + " here: nothing was compared with it");
            return;
        }
        Map<String, String> sections = sections(Files.readString(DOCUMENT));
        Map<String, BitSet> quoted = new LinkedHashMap<>();
        for (String name : sections.keySet()) quoted.put(name, new BitSet());
        for (String[] quote : quotes()) mark(quote[0], quote[1], sections, quoted);
        for (Map.Entry<String, String> section : sections.entrySet()) {
            if (section.getKey().matches("Terms|Promise .*")) isQuoted(section, quoted.get(section.getKey()));
        }
        Due.is("promises", sections.keySet().stream().filter(s -> s.startsWith("Promise ")).count(), 31);
        Due.end();
    }

    /** The sections by their names ('Terms', 'Promise 4'): plain text, with single spaces, without the calls' heads. */
    private static Map<String, String> sections(String document) {
        Map<String, String> all = new LinkedHashMap<>();
        for (String part : document.split("(?m)^## ")) {
            String name = part.lines().findFirst().orElse("").replaceAll(":.*", "").trim();
            String text = part.substring(part.indexOf('\n') + 1);
            text = text.replaceAll("(?m)^(```.*$|======== \\d |`[^`]*`: )", "");
            for (String pattern : NOT_TO_BE_TESTED) text = text.replaceAll(pattern, "");
            all.put(name, text.replaceAll("\\s+", " ").trim());
        }
        return all;
    }

    private static List<String[]> quotes() throws IOException {
        List<String[]> all = new ArrayList<>();
        try (Stream<Path> files = Files.list(TESTS)) {
            for (Path file : files.filter(f -> f.toString().endsWith("Test.java")).sorted().toList()) {
                String text = Files.readString(file);
                Matcher m = QUOTE.matcher(text);
                int ahead = all.size();
                while (m.find()) all.add(new String[] {m.group(1), m.group(2).replaceAll("\"\\s*\\+\\s*\"|\"", "").trim()});
                Due.is("quotes read in " + file, all.size() - ahead, text.split("Due\\.says\\(", -1).length - 1);
            }
        }
        return all;
    }

    private static void mark(String section, String words, Map<String, String> sections, Map<String, BitSet> quoted) {
        String text = sections.getOrDefault(section, "");
        int at = text.indexOf(words);
        Due.is("'" + words + "' stands in " + section, at < 0 ? 0 : 1, 1);
        if (at < 0) return;
        Due.is("'" + words + "' stands there once more", text.indexOf(words, at + 1) < 0 ? 0 : 1, 0);
        quoted.get(section).set(at, at + words.length());
    }

    private static void isQuoted(Map.Entry<String, String> section, BitSet quoted) {
        String text = section.getValue();
        for (int at = quoted.nextClearBit(0); at < text.length();) {
            int end = quoted.nextSetBit(at) < 0 ? text.length() : quoted.nextSetBit(at);
            String left = text.substring(at, end).trim();
            Due.is(section.getKey() + ", without a test: '" + left + "'", left.matches("[^A-Za-z0-9]*") ? 0 : 1, 0);
            at = quoted.nextClearBit(end);
        }
    }
}
