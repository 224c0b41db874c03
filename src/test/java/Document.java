import java.io.IOException;
import java.io.UncheckedIOException;
import java.nio.file.Files;
import java.nio.file.Path;
import java.util.ArrayList;
import java.util.LinkedHashMap;
import java.util.List;
import java.util.Map;
import java.util.regex.Matcher;
import java.util.regex.Pattern;

/**
 * The document, cut into sentences: "Use" (how often an object is used), "Terms 0" (what stands ahead of section 1)
 * to "Terms 6", and "Promise 1" to "Promise 47".
 */
final class Document {
    private static final Path FILE = Path.of("../shared/DOC.md");

    private final Map<String, List<String>> sentences = new LinkedHashMap<>();

    Document() {
        String all = read();
        add("Use", between(all, "An object is used", "## The public face"));
        terms(between(all, "FINDINGS are answers", "Ahead of the calls"));
        Matcher m = Pattern.compile("## (Promise \\d+): .*\\s+`[^`]*`: (.*)").matcher(all);
        while (m.find()) {
            add(m.group(1), m.group(2));
        }
    }

    private static String read() {
        try {
            return Files.readString(FILE);
        } catch (IOException e) {
            throw new UncheckedIOException(e);
        }
    }

    private static String between(String all, String first, String behind) {
        int from = all.indexOf(first);
        return all.substring(from, all.indexOf(behind, from));
    }

    private void terms(String terms) {
        String[] parts = ("0. " + terms).split("(?m)^(?=\\d\\. )");
        for (String part : parts) {
            add("Terms " + part.charAt(0), part.substring(3).replaceAll("(?m)^```.*$", ""));
        }
    }

    /** A sentence ends with a dot behind anything but another dot ("0, 1, .. (at most 6)" goes on). */
    private void add(String where, String text) {
        List<String> list = new ArrayList<>();
        for (String s : plain(text).split("(?<=[^.]\\.) ")) {
            list.add(s);
        }
        sentences.put(where, list);
    }

    static String plain(String text) {
        return text.trim().replaceAll("\\s+", " ");
    }

    Map<String, List<String>> sentences() {
        return sentences;
    }
}
