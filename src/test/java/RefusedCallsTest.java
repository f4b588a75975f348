import java.util.ArrayList;
import java.util.List;
import java.util.concurrent.Callable;

/**
 * An object behind a refused call answers as if that call had not been made: the same calls are made to two objects,
 * of which one is asked for what it refuses ahead of each.
 */
public final class RefusedCallsTest {
    private static final String CHANGES_NOTHING = "A method that throws an exception changes nothing.";
    private static final String FIRST_NAMED = "If several exceptions apply, the one that is named first is thrown.";

    /** The definitions c and d, and the constructor L, have types of more than 400 bytes. */
    private static final String LONG = "longname->".repeat(34) + "longname";
    private static final String PROGRAM = "type longname=A|B int|L (" + LONG + ");def a=fun x y->x;def b=1;def c:" + LONG
            + "=c;def d=fun x->c;def e=fun x->e x+1;";
    private static final int PLACE_OF_B = PROGRAM.indexOf("def b=1") + 6;
    private static final int PLACE_OF_C = PROGRAM.indexOf("=c;") + 1;

    /** One call that an object refuses. */
    private record Call(String name, Class<? extends Exception> due, int which, int first, int second) {
        Callable<?> call(TypeLoom loom) {
            switch (which) {
                case 0:
                    return () -> loom.trim(first < 0 ? first : loom.count(3) + first);
                case 1:
                    return () -> loom.count(first);
                case 2:
                    return () -> loom.write(first);
                case 3:
                    return () -> loom.writeConstructor(first);
                case 4:
                    return () -> loom.writeAt(first);
                case 5:
                    return () -> loom.byteAt(first < 0 ? first : loom.count(4) + first);
                case 6:
                    return () -> loom.measure(first, second);
                case 7:
                    return () -> loom.uses(first, second);
                case 8:
                    return () -> loom.covers(first, second);
                default:
                    return () -> loom.meet(first, second);
            }
        }
    }

    public static void main(String[] args) {
        Check check = new Check("RefusedCallsTest");
        for (Call call : always()) {
            twins(check, call, false);
        }
        for (Call call : withProgram()) {
            twins(check, call, true);
        }
        fullTape(check);
        firstNamed(check);
        errorsAreNoExceptions(check);
        check.end();
    }

    private static List<Call> always() {
        List<Call> calls = new ArrayList<>();
        int[] far = {-1, Integer.MIN_VALUE, Integer.MAX_VALUE - 1200};
        for (int n : new int[] {-1, Integer.MIN_VALUE, 1, 1200, Integer.MAX_VALUE - 1200}) {
            calls.add(new Call("trim", IllegalArgumentException.class, 0, n, 0));
        }
        for (int what : new int[] {-1, 5, Integer.MIN_VALUE, Integer.MAX_VALUE}) {
            calls.add(new Call("count", IndexOutOfBoundsException.class, 1, what, 0));
        }
        for (int k : new int[] {-1, 0, 1, Integer.MIN_VALUE, Integer.MAX_VALUE - 400}) {
            calls.add(new Call("byteAt", IndexOutOfBoundsException.class, 5, k, 0));
        }
        for (int n : far) {
            calls.add(new Call("write", IndexOutOfBoundsException.class, 2, n, 0));
            calls.add(new Call("writeConstructor", IndexOutOfBoundsException.class, 3, n, 0));
            calls.add(new Call("writeAt", IndexOutOfBoundsException.class, 4, n, 0));
            calls.add(new Call("measure", IndexOutOfBoundsException.class, 6, n, 0));
            calls.add(new Call("measure", IndexOutOfBoundsException.class, 6, 0, n));
            for (int which = 7; which <= 9; which++) {
                calls.add(new Call("uses, covers or meet", IndexOutOfBoundsException.class, which, n, 0));
                calls.add(new Call("uses, covers or meet", IndexOutOfBoundsException.class, which, 0, n));
            }
        }
        calls.add(new Call("write", IndexOutOfBoundsException.class, 2, 5, 0));
        calls.add(new Call("writeConstructor", IndexOutOfBoundsException.class, 3, 3, 0));
        calls.add(new Call("writeConstructor", IndexOutOfBoundsException.class, 3, -2, 0));
        calls.add(new Call("writeAt", IndexOutOfBoundsException.class, 4, 0, 0));
        calls.add(new Call("writeAt", IndexOutOfBoundsException.class, 4, PROGRAM.length() - 1, 0));
        calls.add(new Call("writeAt", IndexOutOfBoundsException.class, 4, PROGRAM.length(), 0));
        calls.add(new Call("measure", IndexOutOfBoundsException.class, 6, 5, 0));
        calls.add(new Call("measure", IndexOutOfBoundsException.class, 6, 0, 3));
        for (int which = 7; which <= 9; which++) {
            calls.add(new Call("uses, covers or meet", IndexOutOfBoundsException.class, which, 5, 0));
            calls.add(new Call("uses, covers or meet", IndexOutOfBoundsException.class, which, 0, 5));
        }
        return calls;
    }

    /** These are refused since a type is too long. */
    private static List<Call> withProgram() {
        List<Call> calls = new ArrayList<>();
        calls.add(new Call("write of c", IllegalStateException.class, 2, 2, 0));
        calls.add(new Call("write of d", IllegalStateException.class, 2, 3, 0));
        calls.add(new Call("writeConstructor of L", IllegalStateException.class, 3, 2, 0));
        calls.add(new Call("writeAt of c", IllegalStateException.class, 4, PLACE_OF_C, 0));
        calls.add(new Call("meet of c and c", IllegalStateException.class, 9, 2, 2));
        calls.add(new Call("meet of d and a", IllegalStateException.class, 9, 3, 0));
        calls.add(new Call("meet of a and d", IllegalStateException.class, 9, 0, 3));
        return calls;
    }

    /** Makes the same calls to both; the refused one is made to the second, ahead of each of them. */
    private static void twins(Check check, Call refused, boolean needsProgram) {
        check.holds(CHANGES_NOTHING);
        TypeLoom plain = new TypeLoom();
        TypeLoom other = new TypeLoom();
        for (int step = 0; step < STEPS; step++) {
            boolean hasProgram = step > 3 && step < 19;
            if (hasProgram || !needsProgram) {
                check.throwsThis(refused + " ahead of step " + step, refused.due(), refused.call(other));
            }
            check.same("step " + step + " behind " + refused, take(other, step), take(plain, step));
            check.same("digest behind step " + step + " and " + refused, other.digest(), plain.digest());
            check.same("errorAt behind step " + step + " and " + refused, other.errorAt(), plain.errorAt());
        }
    }

    private static final int STEPS = 22;

    private static long take(TypeLoom loom, int step) {
        switch (step) {
            case 0:
                return loom.feed(0x6c657420, 0x783d3120, 0x696e2078, 0, 0);
            case 1:
                return loom.trim(12);
            case 2:
                return loom.ask();
            case 3:
                return Check.compile(loom, PROGRAM);
            case 4:
                return loom.write(0);
            case 5:
                return loom.byteAt(loom.count(4) - 1);
            case 6:
                return loom.writeConstructor(1);
            case 7:
                return loom.writeAt(PLACE_OF_B);
            case 8:
                return loom.measure(2, 0) * 100 + loom.measure(0, 1) * 10 + loom.measure(3, 2);
            case 9:
                return loom.uses(4, 4) * 10 + loom.uses(4, 1);
            case 10:
                return (loom.covers(0, 4) ? 1 : 0) + (loom.covers(4, 4) ? 2 : 0);
            case 11:
                return loom.meet(0, 0);
            case 12:
                return loom.meet(0, 1);
            case 13:
                return Check.ask(loom, "a b (e 1)");
            case 14:
                return Check.ask(loom, "a b (e c)");
            case 15:
                return (long) (loom.meanParts() * 1000);
            case 16:
                return loom.feed(0x6465663d, -1, 0, 1, 2);
            case 17:
                return loom.trim(3);
            case 18:
                return loom.compile();
            case 19:
                return Check.ask(loom, "b");
            case 20:
                return Check.compile(loom, "def a=fun x->x;");
            default:
                return loom.write(0);
        }
    }

    private static void fullTape(Check check) {
        check.holds(CHANGES_NOTHING);
        String text = "def x=1;" + " ".repeat(1180);
        for (int bytes : new int[] {1181, 1188}) {
            TypeLoom loom = new TypeLoom();
            Check.put(loom, text.substring(0, bytes));
            for (int n = 0; n < 3; n++) {
                check.throwsThis("feed onto " + bytes, IllegalStateException.class, () -> loom.feed(-1, -1, -1, -1, -1));
                check.same("bytes of the tape", loom.count(3), bytes);
            }
            check.throwsThis("trim", IllegalArgumentException.class, () -> loom.trim(bytes + 1));
            check.same("compile", loom.compile(), 0);
            check.same("definitions", loom.count(2), 1);
            check.same("feed", loom.feed(0x31202020, 0x20202020, 0x20202020, 0x20202020, 0x20202020), 20);
            check.same("ask", loom.ask(), 0);
        }
    }

    /** A method tells that there is no such thing ahead of telling that it is too long. */
    private static void firstNamed(Check check) {
        check.holds(FIRST_NAMED);
        TypeLoom loom = new TypeLoom();
        check.same("compile", Check.compile(loom, PROGRAM), 0);
        check.noSuch("write(5)", () -> loom.write(5));
        check.noSuch("meet of c and no definition", () -> loom.meet(2, 5));
        check.noSuch("meet of no definition and c", () -> loom.meet(-1, 2));
        check.noSuch("writeConstructor(3)", () -> loom.writeConstructor(3));
        check.noSuch("writeAt ahead of a long one", () -> loom.writeAt(PLACE_OF_C - 1));
        check.tooLong("write(2)", () -> loom.write(2));
        check.tooLong("meet(2, 2)", () -> loom.meet(2, 2));
        check.noSuch("measure without a definition and a measure", () -> loom.measure(5, 3));
        check.noSuch("uses without definitions", () -> loom.uses(5, 5));
    }

    /** An error of compile or ask is an answer: the tape is empty behind it, and errorAt tells its place. */
    private static void errorsAreNoExceptions(Check check) {
        check.holds("compile and ask read it, and it is empty behind each of these.");
        TypeLoom loom = new TypeLoom();
        check.same("compile", Check.compile(loom, PROGRAM), 0);
        loom.write(1);
        check.same("ask of too much", Check.ask(loom, "c"), 9);
        check.same("its place", loom.errorAt(), 0);
        check.same("the paper stays", loom.count(4), 3);
        check.same("the tape is empty", loom.count(3), 0);
        check.same("ask", Check.ask(loom, "e 1"), 0);
        check.same("its paper", Check.paper(loom), "int");
    }
}
