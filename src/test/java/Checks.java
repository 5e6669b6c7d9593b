import java.io.IOException;
import java.nio.charset.StandardCharsets;
import java.nio.file.Files;
import java.nio.file.Path;
import java.util.NoSuchElementException;

/** What the tests share: texts fed to a room, and answers that are due by a promise or a sentence of the document. */
abstract class Checks {
    static int promise = 0;
    static int wrong = 0;
    static int checks = 0;
    static int sentences = 0;
    private static String words = "";
    private static String document = "";

    /** Answers are due by these words of the document from here on. */
    static void sentence(int number, String quoted) {
        promise = number;
        words = ", \"" + quoted + "\"";
        sentences++;
        if (!says(quoted)) {
            wrong++;
            System.out.println("promise " + promise + ": the document doesn't say \"" + quoted + "\"");
        }
    }

    private static boolean says(String quoted) {
        if (document.isEmpty()) {
            try {
                document = Files.readString(Path.of("../shared/DOC.md")).replaceAll("\\s+", " ");
            } catch (IOException e) {
                System.out.println("without the document its words aren't compared: " + e);
                document = " ";
            }
        }
        return document.isBlank() || document.contains(quoted);
    }

    static void due(String call, long got, long want) {
        checks++;
        if (got != want) {
            wrong++;
            String where = promise > 0 ? "promise " + promise + words + ": " : "";
            System.out.println(where + call + " answered " + got + ", due is " + want);
        }
    }

    /** Feeds a text: how many bytes the tape has. Behind the text come signs that no text may have. */
    static int feedAll(HatRoom x, String text) {
        byte[] bytes = text.getBytes(StandardCharsets.ISO_8859_1);
        int has = 0;
        for (int i = 0; i < bytes.length; i += 20) {
            int[] n = new int[5];
            for (int k = 0; k < 20; k++) {
                n[k / 4] = n[k / 4] << 8 | (i + k < bytes.length ? bytes[i + k] & 255 : '!');
            }
            has = x.feed(n[0], n[1], n[2], n[3], n[4]);
        }
        return has;
    }

    static int load(HatRoom x, String text) {
        feedAll(x, text);
        return x.text(text.length());
    }

    static HatRoom room(String text) {
        HatRoom x = new HatRoom();
        if (load(x, text) < 0) {
            wrong++;
            System.out.println("promise " + promise + words + ": fault " + x.fault(0) + " at " + x.fault(1) + ": " + text);
        }
        return x;
    }

    /** A text with a fault: which one and where. */
    static void faulty(String text, int what, int place) {
        HatRoom x = new HatRoom();
        due("text of \"" + text + "\"", load(x, text), -1);
        due("fault(0) of \"" + text + "\"", x.fault(0), what);
        due("fault(1) of \"" + text + "\"", x.fault(1), place);
    }

    /** A text with a fault where the ^ stands, which isn't fed. */
    static void faultAt(int what, String marked) {
        faulty(marked.replace("^", ""), what, marked.indexOf('^'));
    }

    static void fine(String text, int lines) {
        HatRoom x = new HatRoom();
        due("text of \"" + text + "\"", load(x, text), lines);
        due("fault(0) of \"" + text + "\"", x.fault(0), 0);
        due("fault(1) of \"" + text + "\"", x.fault(1), -1);
    }

    /** What person() throws, 1: IndexOutOfBoundsException, 2: NoSuchElementException, 0: nothing. */
    static int thrown(HatRoom x, int person, int what) {
        try {
            x.person(person, what);
            return 0;
        } catch (IndexOutOfBoundsException e) {
            return 1;
        } catch (NoSuchElementException e) {
            return 2;
        }
    }

    /** A name as a number, as named() takes it. */
    static int letters(String name) {
        int code = 0;
        for (int i = 0; i < 6; i++) {
            code = code << 5 | (i < name.length() ? name.charAt(i) - 'a' + 1 : 0);
        }
        return code;
    }

    /** Ends the run: exit code 1 if an answer was wrong. */
    static void finish(String what) {
        System.out.println(what + ", " + wrong + " wrong");
        if (wrong != 0) {
            System.exit(1);
        }
    }
}
