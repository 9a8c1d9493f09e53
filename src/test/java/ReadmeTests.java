import java.io.IOException;
import java.nio.file.Files;
import java.nio.file.Path;
import java.util.regex.Matcher;
import java.util.regex.Pattern;

/** The code that README.md shows: it stands here line by line, and answers what is told there. */
public final class ReadmeTests {
    private static final Path README = Path.of("README.md");
    private static final Path HERE = Path.of("src/test/java/ReadmeTests.java");

    private ReadmeTests() {
    }

    public static void main(String[] args) throws IOException {
        Due.part("README.md");
        example();
        everyLineStandsHere();
        Due.end();
    }

    private static void example() {
        FrontierDesk desk = new FrontierDesk();
        desk.land(16, 4);
        desk.haze(0, 0, 9, 9);
        int a = desk.post(0, 0, 5, 5, true, 3);
        int b = desk.post(15, 0, 5, 5, true, 2);
        int c = desk.post(7, 1, 5, 5, false, 0);
        int groups = desk.groups(0, 0, 100, 1);
        int fewest = desk.join(0, 0, 100, 1);
        int rival = desk.joined(2, 0);
        boolean dug = desk.dug(c, true);
        int tile = desk.note(0, c, 90);
        int stood = desk.stood(c, 90, 1);
        int way = desk.way(a, b);
        Due.is("a", a, 0);
        Due.is("b", b, 1);
        Due.is("c", c, 2);
        Due.is("groups", groups, 2);
        Due.is("fewest", fewest, 1);
        Due.is("rival", rival, 4);
        Due.yes("dug", dug);
        Due.is("tile", tile, 0);
        Due.is("stood", stood, 2);
        Due.is("way", way, 150);
        tell(desk, a, b);
    }

    private static void tell(FrontierDesk desk, int a, int b) {
        byte[] text = "word fire 1 2; order any fire do pass;".getBytes();
        byte[] tape = java.util.Arrays.copyOf(text, (text.length + 19) / 20 * 20);
        java.nio.ByteBuffer bytes = java.nio.ByteBuffer.wrap(tape);
        while (bytes.hasRemaining()) {
            desk.feed(bytes.getInt(), bytes.getInt(), bytes.getInt(), bytes.getInt(), bytes.getInt());
        }
        int words = desk.rules(text.length);
        int heard = desk.send(a, 0, 0, 0, 100);
        int minute = desk.heard(b, 0, 0);
        int from = desk.heard(b, 0, 1);
        Due.is("words", words, 1);
        Due.is("heard", heard, 3);
        Due.is("minute", minute, 10);
        Due.is("from", from, 2);
    }

    /** Each line of README's Java stands in this file, too, and each answer told there is asked here. */
    private static void everyLineStandsHere() throws IOException {
        String here = Files.readString(HERE);
        Matcher blocks = Pattern.compile("```java\n(.*?)```", Pattern.DOTALL).matcher(Files.readString(README));
        int lines = 0;
        while (blocks.find()) {
            for (String line : blocks.group(1).split("\n")) {
                String code = line.replaceAll("\\s*// .*", "");
                Due.yes("this file has: " + code, here.contains("\n        " + code + "\n"));
                answerIsAsked(here, line);
                lines++;
            }
        }
        Due.yes("README.md has code", lines > 20);
    }

    private static void answerIsAsked(String here, String line) {
        Matcher told = Pattern.compile("^int (\\w+) = .*// (\\d+)").matcher(line);
        if (told.find()) {
            String asked = "Due.is(\"" + told.group(1) + "\", " + told.group(1) + ", " + told.group(2) + ");";
            Due.yes("this file asks: " + asked, here.contains(asked));
        }
    }
}
