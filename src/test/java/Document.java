import java.io.IOException;
import java.io.UncheckedIOException;
import java.nio.charset.StandardCharsets;
import java.nio.file.Files;
import java.nio.file.Path;
import java.util.LinkedHashMap;
import java.util.Map;
import java.util.regex.Matcher;
import java.util.regex.Pattern;

/** The places of ../shared/DOC.md, each with its words; any run of blanks and line ends is one blank. */
final class Document {
    static final String INTRODUCTION = "What it is";
    static final String FACE = "The public face";
    static final String SECTION_1 = "Section 1";
    static final String SECTION_2 = "Section 2";
    static final String BEHIND = "Behind the sections";

    private static final Path FILE = Path.of("../shared/DOC.md");
    private static final Pattern HEADING = Pattern.compile("(?m)^(?:## (.*)|======== ([12])|THE FRACTION is 0 by 1 at first)");

    private Document() {
    }

    static String promise(int number) {
        return "Promise " + number;
    }

    /** Where it is not, the class is tested all the same; only its words are not looked up. */
    static boolean isThere() {
        boolean there = Files.isReadable(FILE);
        if (!there) {
            System.out.println("no " + FILE + ": its words are not looked up");
        }
        return there;
    }

    static Map<String, String> places() {
        String whole;
        try {
            whole = Files.readString(FILE, StandardCharsets.UTF_8);
        } catch (IOException unread) {
            throw new UncheckedIOException(unread);
        }
        Map<String, String> places = new LinkedHashMap<>();
        Matcher heading = HEADING.matcher(whole);
        String place = "";
        int from = 0;
        while (heading.find()) {
            places.put(place, oneLine(whole.substring(from, heading.start())));
            place = placeOf(heading);
            from = heading.start();
        }
        places.put(place, oneLine(whole.substring(from)));
        return places;
    }

    private static String placeOf(Matcher heading) {
        if (heading.group(2) != null) {
            return "Section " + heading.group(2);
        }
        if (heading.group(1) == null) {
            return BEHIND;
        }
        return heading.group(1).replaceAll(":.*", "");
    }

    private static String oneLine(String words) {
        return words.replaceAll("\\s+", " ");
    }
}
