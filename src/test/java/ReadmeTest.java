import java.io.IOException;
import java.lang.reflect.Method;
import java.lang.reflect.Modifier;
import java.nio.file.Files;
import java.nio.file.Path;
import java.util.concurrent.Callable;

/** README.md tells of every method, and each line of its run of calls has the answer that the class gives. */
public final class ReadmeTest {
    private static final String TEXT = "type box 'a = Box 'a; def id = fun x -> x; def two = Box (id 2);";

    private final Check check = new Check("ReadmeTest");
    private final String readme;
    private int lines;

    private ReadmeTest(String readme) {
        this.readme = readme.replaceAll("\\s+", " ");
    }

    public static void main(String[] args) throws IOException {
        ReadmeTest test = new ReadmeTest(Files.readString(Path.of("README.md")));
        test.everyMethod();
        test.byHand();
        test.run();
        test.noOtherLine();
        test.check.end();
    }

    private void has(String words) {
        check.isTrue("README.md has \"" + words + "\"", readme.contains(words));
    }

    /** A line of the run: the call, and behind it what it answers. */
    private void line(String call, Object answer) {
        lines++;
        has(call + "; // " + answer + " ");
    }

    private void refused(String words, Callable<?> call) {
        try {
            line(words, call.call());
        } catch (Exception e) {
            line(words, e.getClass().getSimpleName());
        }
    }

    private void everyMethod() {
        for (Method method : TypeLoom.class.getDeclaredMethods()) {
            if (Modifier.isPublic(method.getModifiers())) {
                has("| `" + method.getName() + "(");
            }
        }
        has("| `new TypeLoom()`");
    }

    private void byHand() {
        TypeLoom loom = new TypeLoom();
        line("loom.feed(0x64656620, 0x6964203d, 0x2066756e, 0x2078202d, 0x3e20783b)",
                loom.feed(0x64656620, 0x6964203d, 0x2066756e, 0x2078202d, 0x3e20783b) + ": def id = fun x -> x;");
        line("loom.compile()", loom.compile());
        line("loom.write(0)", loom.write(0) + ": " + Check.paper(loom));
        line("loom.feed(0x69642069, 0x64000000, 0, 0, 0)", loom.feed(0x69642069, 0x64000000, 0, 0, 0));
        line("loom.trim(5)", loom.trim(5) + ": id id");
        line("loom.ask()", loom.ask() + ": " + Check.paper(loom));
    }

    private void run() {
        TypeLoom loom = new TypeLoom();
        has("put(loom, \"" + TEXT + "\");");
        Check.put(loom, TEXT);
        line("loom.count(3)", loom.count(3));
        line("loom.compile()", loom.compile());
        line("loom.errorAt()", loom.errorAt());
        line("loom.count(0)", loom.count(0));
        line("loom.count(1)", loom.count(1));
        line("loom.count(2)", loom.count(2));
        line("loom.write(0)", loom.write(0) + ": " + Check.paper(loom));
        line("loom.byteAt(0)", loom.byteAt(0));
        refused("loom.byteAt(8)", () -> loom.byteAt(8));
        line("loom.writeConstructor(0)", loom.writeConstructor(0) + ": " + Check.paper(loom));
        line("loom.write(1)", loom.write(1) + ": " + Check.paper(loom));
        refused("loom.write(2)", () -> loom.write(2));
        line("loom.writeAt(59)", loom.writeAt(59) + ": " + Check.paper(loom));
        line("loom.writeAt(61)", loom.writeAt(61) + ": " + Check.paper(loom));
        refused("loom.writeAt(0)", () -> loom.writeAt(0));
        line("loom.measure(0, 0)", loom.measure(0, 0));
        line("loom.measure(0, 1)", loom.measure(0, 1));
        line("loom.measure(0, 2)", loom.measure(0, 2));
        line("loom.uses(1, 0)", loom.uses(1, 0));
        line("loom.covers(0, 0)", loom.covers(0, 0));
        line("loom.covers(0, 1)", loom.covers(0, 1));
        line("loom.meet(0, 0)", loom.meet(0, 0) + ": " + Check.paper(loom));
        line("loom.meet(0, 1)", loom.meet(0, 1));
        line("loom.meanParts()", loom.meanParts());
        line("loom.digest()", loom.digest());
        questions(loom);
        has("put(loom, \"def f = fun x -> y;\");");
        Check.put(loom, "def f = fun x -> y;");
        line("loom.compile()", loom.compile());
        line("loom.errorAt()", loom.errorAt());
        line("loom.count(2)", loom.count(2));
        refused("loom.trim(1)", () -> loom.trim(1));
    }

    private void questions(TypeLoom loom) {
        has("put(loom, \"fun y -> (two, id y)\");");
        Check.put(loom, "fun y -> (two, id y)");
        line("loom.ask()", loom.ask() + ": " + Check.paper(loom));
        has("put(loom, \"id 1 2\");");
        Check.put(loom, "id 1 2");
        line("loom.ask()", loom.ask());
        line("loom.errorAt()", loom.errorAt());
    }

    /** Every line with an answer in README.md was looked at. */
    private void noOtherLine() {
        int told = readme.split("; // ", -1).length - 1;
        check.same("lines with an answer", told, lines);
    }
}
