import java.io.IOException;
import java.nio.charset.StandardCharsets;
import java.nio.file.Files;
import java.nio.file.Path;
import java.util.Arrays;

/** What the tests share: answers that are due, and texts put on the TAPE. */
final class Due {
    private static final Path DOCUMENT = Path.of("../shared/DOC.md");

    private static int asked = 0;
    private static int wrong = 0;
    private static String part = "";
    private static String document = null;

    private Due() {
    }

    static void part(String name) {
        part = name;
    }

    /** What follows tests this sentence; it must stand in the document just so. */
    static void sentence(String words) {
        part("\"" + words + "\"");
        yes("the document says so", document().isEmpty() || document().contains(plain(words)));
    }

    private static String document() {
        if (document == null) {
            try {
                document = Files.exists(DOCUMENT) ? plain(Files.readString(DOCUMENT)) : "";
            } catch (IOException e) {
                document = "";
            }
        }
        return document;
    }

    private static String plain(String text) {
        return text.replace("`", "").replaceAll("\\s+", " ");
    }

    static void is(String call, int got, int want) {
        asked++;
        if (got != want) {
            wrong++;
            System.out.println(part + ": " + call + " answered " + got + ", due is " + want);
        }
    }

    static void yes(String call, boolean got) {
        is(call, got ? 1 : 0, 1);
    }

    static void no(String call, boolean got) {
        is(call, got ? 1 : 0, 0);
    }

    static void end() {
        System.out.println(asked + " answers asked, " + wrong + " wrong");
        if (wrong != 0 || asked == 0) {
            System.exit(1);
        }
    }

    /** The text's bytes as numbers for feed(), filled with blanks to whole twenties. */
    static int[] numbers(String text) {
        byte[] bytes = text.getBytes(StandardCharsets.ISO_8859_1);
        byte[] whole = Arrays.copyOf(bytes, (bytes.length + 19) / 20 * 20);
        Arrays.fill(whole, bytes.length, whole.length, (byte) ' ');
        int[] numbers = new int[whole.length / 4];
        for (int i = 0; i < whole.length; i++) {
            numbers[i / 4] = numbers[i / 4] << 8 | whole[i] & 255;
        }
        return numbers;
    }

    static void put(FrontierDesk desk, String text) {
        int[] n = numbers(text);
        for (int i = 0; i < n.length; i += 5) {
            desk.feed(n[i], n[i + 1], n[i + 2], n[i + 3], n[i + 4]);
        }
    }

    static int rules(FrontierDesk desk, String text) {
        put(desk, text);
        return desk.rules(text.length());
    }

    /** The RULES have this FAULT at this place. */
    static void fault(String text, int sort, int place) {
        FrontierDesk desk = new FrontierDesk();
        is("rules \"" + text + "\"", rules(desk, text), FrontierDesk.NONE);
        is("fault(0) of \"" + text + "\"", desk.fault(0), sort);
        is("fault(1) of \"" + text + "\"", desk.fault(1), place);
    }

    /** The RULES have no FAULT. */
    static void clean(String text, int words) {
        FrontierDesk desk = new FrontierDesk();
        is("rules \"" + text + "\"", rules(desk, text), words);
        is("fault(0) of \"" + text + "\"", desk.fault(0), 0);
        is("fault(1) of \"" + text + "\"", desk.fault(1), FrontierDesk.NONE);
    }
}
