import java.io.IOException;
import java.nio.file.Files;
import java.nio.file.Path;
import java.util.ArrayList;
import java.util.List;
import java.util.concurrent.Callable;

/** Compares answers with those that are due, counts the wrong ones, and speaks to a TypeLoom in texts. */
final class Check {
    private static final String ERROR_HERE = "@";
    private static final Path DOCUMENT = Path.of("..", "shared", "DOC.md");

    private final String name;
    private final List<String> sentences = new ArrayList<>();
    private String sentence = "";
    private int wrong;
    private int all;

    Check(String name) {
        this.name = name;
    }

    /** Names the sentence of the document that the checks from here on hold, in the document's words. */
    void holds(String words) {
        sentence = words;
        sentences.add(words);
    }

    void same(String what, long got, long due) {
        all++;
        if (got != due) {
            wrong(what + " answered " + got + ", due is " + due);
        }
    }

    void same(String what, String got, String due) {
        all++;
        if (!got.equals(due)) {
            wrong(what + " answered \"" + got + "\", due is \"" + due + "\"");
        }
    }

    private void wrong(String what) {
        wrong++;
        System.out.println(name + ": " + what + (sentence.isEmpty() ? "" : "\n    the document: " + sentence));
    }

    void isTrue(String what, boolean got) {
        same(what, got ? 1 : 0, 1);
    }

    void isFalse(String what, boolean got) {
        same(what, got ? 1 : 0, 0);
    }

    /** The call has to throw exactly this exception. */
    void throwsThis(String what, Class<? extends Exception> due, Callable<?> call) {
        String got = "nothing";
        try {
            call.call();
        } catch (Exception e) {
            got = e.getClass().getName();
        }
        same(what, got, due.getName());
    }

    /** The call has to be refused as having no such index. */
    void noSuch(String what, Callable<?> call) {
        throwsThis(what, IndexOutOfBoundsException.class, call);
    }

    /** The call has to be refused as writing more than 400 bytes. */
    void tooLong(String what, Callable<?> call) {
        throwsThis(what, IllegalStateException.class, call);
    }

    /** Compiles a text without an error. */
    TypeLoom compiled(String text) {
        TypeLoom loom = new TypeLoom();
        same("compile of " + text, compile(loom, text), 0);
        same("errorAt behind " + text, loom.errorAt(), -1);
        return loom;
    }

    /** Compiles a text with an error at the place where an @ stands in it (the @ is left out). */
    void programError(int number, String marked) {
        TypeLoom loom = new TypeLoom();
        String text = marked.replace(ERROR_HERE, "");
        same("compile of " + marked, compile(loom, text), number);
        same("errorAt behind " + marked, loom.errorAt(), marked.indexOf(ERROR_HERE));
        same("definitions behind " + marked, loom.count(2), 0);
    }

    /** The same for a question to the program of an object. */
    void questionError(TypeLoom loom, int number, String marked) {
        String text = marked.replace(ERROR_HERE, "");
        same("ask of " + marked, ask(loom, text), number);
        same("errorAt behind " + marked, loom.errorAt(), marked.indexOf(ERROR_HERE));
    }

    /** The last definition of a program has this type. */
    void typeOfLast(String text, String due) {
        TypeLoom loom = compiled(text);
        if (loom.count(2) > 0) {
            same("length behind " + text, loom.write(loom.count(2) - 1), due.length());
            same("type behind " + text, paper(loom), due);
        }
    }

    /** A question to the program of an object is answered with this type. */
    void answer(TypeLoom loom, String question, String due) {
        same("ask of " + question, ask(loom, question), 0);
        same("errorAt behind " + question, loom.errorAt(), -1);
        same("answer to " + question, paper(loom), due);
    }

    void end() {
        sentencesStandInTheDocument();
        System.out.println(name + ": " + (all - wrong) + " of " + all + " answers are as due");
        if (wrong != 0) {
            System.exit(1);
        }
    }

    /** What a test says that it holds has to be what the document says, blanks and line ends aside. */
    private void sentencesStandInTheDocument() {
        String document;
        try {
            document = Files.readString(DOCUMENT).replaceAll("\\s+", " ");
        } catch (IOException e) {
            System.out.println(name + ": the document is not there to look for the sentences");
            return;
        }
        sentence = "";
        for (String words : sentences) {
            same("the document has \"" + words + "\"", document.contains(words) ? 1 : 0, 1);
        }
    }

    static int compile(TypeLoom loom, String text) {
        put(loom, text);
        return loom.compile();
    }

    static int ask(TypeLoom loom, String text) {
        put(loom, text);
        return loom.ask();
    }

    /** Appends a text to the tape. */
    static void put(TypeLoom loom, String text) {
        int size = loom.count(3);
        for (int k = 0; k < text.length(); k += 20) {
            loom.feed(four(text, k), four(text, k + 4), four(text, k + 8), four(text, k + 12), four(text, k + 16));
        }
        loom.trim(size + text.length());
    }

    static int four(String text, int from) {
        int number = 0;
        for (int k = from; k < from + 4; k++) {
            number = number << 8 | (k < text.length() ? text.charAt(k) & 255 : ' ');
        }
        return number;
    }

    static String paper(TypeLoom loom) {
        StringBuilder text = new StringBuilder();
        int size = loom.count(4);
        for (int k = 0; k < size; k++) {
            text.append((char) loom.byteAt(k));
        }
        return text.toString();
    }

    static String written(TypeLoom loom, int def) {
        loom.write(def);
        return paper(loom);
    }
}
