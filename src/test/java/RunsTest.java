/** Long runs of calls on one object: what was there does not show in what comes, and all rooms suffice. */
public final class RunsTest {
    private static final String PRELUDE = "def id = fun x -> x; def two = fun x -> (x, x);";

    public static void main(String[] args) {
        Check check = new Check("RunsTest");
        errorsLeaveNoNames(check);
        programsLeaveNothing(check);
        manyTypes(check);
        manyCalls(check);
        measuresInAnyOrder(check);
        mostOfEverything(check);
        check.end();
    }

    /** An error in the midst of a definition or item leaves no name bound. */
    private static void errorsLeaveNoNames(Check check) {
        check.holds("Compiles the tape as a program. The program that was there is gone in any case.");
        TypeLoom loom = new TypeLoom();
        check.same("an error in x", Check.compile(loom, "def x = 1 + true;"), 5);
        check.questionError(loom, 2, "@x");
        check.same("an error under y", Check.compile(loom, "def x = fun y -> y z;"), 2);
        check.questionError(loom, 2, "@y");
        check.same("an error in the midst", Check.compile(loom, "def a = 1; type t = A; def x = fun y -> y z;"), 2);
        check.questionError(loom, 2, "@a");
        check.questionError(loom, 2, "@A");
        check.questionError(loom, 2, "fun x -> @y");
        check.questionError(loom, 2, "@x");
        check.answer(loom, "fun x -> x", "'a -> 'a");
        check.questionError(loom, 5, "let q = 1 in q @q");
        check.questionError(loom, 2, "@q");
        check.same("another program", Check.compile(loom, "def x = fun y -> x;"), 5);
        check.same("a name that is gone", Check.compile(loom, "def b = y;"), 2);
        check.same("a good one", Check.compile(loom, "def y = 1; def b = y; def x = b;"), 0);
        check.same("its type", Check.written(loom, 2), "int");
    }

    private static void programsLeaveNothing(Check check) {
        check.holds("Compiles the tape as a program. The program that was there is gone in any case.");
        TypeLoom loom = check.compiled("type t 'a 'b = A 'a | B 'b; type u 'a = C; def x = A 1; def y = x;");
        check.same("the same names", Check.compile(loom, "type t = A; type u = B (t) u; def x : t = A; def z = x;"), 0);
        check.same("x", Check.written(loom, 0), "t");
        loom.writeConstructor(1);
        check.same("B", Check.paper(loom), "t -> u -> u");
        check.same("uses", loom.uses(1, 0), 1);
        check.questionError(loom, 2, "@y");
        check.questionError(loom, 2, "@C");
        check.same("a wrong one", Check.compile(loom, "type t 'a 'b 'c = A 'a"), 1);
        check.same("the first again", Check.compile(loom, "type u = D; def x : list u = Cons D Nil;"), 0);
        check.same("x", Check.written(loom, 0), "list u");
    }

    /** A type of many parts is used as often as the tokens allow. */
    private static void manyTypes(Check check) {
        check.holds("Two types fit, if what is unknown in them can be made known, so that both are the same; it is"
                + " known then in all that was found so far; an unknown type does not fit a type in which it stands"
                + " itself (but itself).");
        String form = "int -> ".repeat(40) + "int";
        TypeLoom loom = check.compiled("type t = K (" + form + "); def f : " + form + " = f; " + PRELUDE);
        check.answer(loom, "fst (1, (fun" + " x".repeat(140) + " -> 1)" + " f".repeat(140) + ")", "int");
        check.answer(loom, "case K f of K g -> g" + " 1".repeat(40) + " end", "int");
        check.same("the type stays", loom.write(0), form.length());
        check.answer(loom, "fst (true, two (two (two (two (two (two (two (two (two (two (two f)))))))))))", "bool");
        check.answer(loom, "fst (true, fun a -> (two (two (two (two (two (two (two a))))))))", "bool");
        check.compiled("def f : " + form + " = f; def g = (fun" + " x".repeat(90) + " -> 1)" + " f".repeat(90) + ";");
        check.compiled("def f = fun" + " x".repeat(50) + " -> 1; def g = (fun" + " x".repeat(110) + " -> 1)"
                + " f".repeat(110) + ";");
        doubled(check);
        wideAndDeep(check);
    }

    private static void wideAndDeep(Check check) {
        check.holds("Returns 0, or the error, 1, 2, 5, 6, 7 or 9 (9 at its first token, if the type would need more"
                + " than 400 bytes).");
        String wide = "f";
        for (int n = 0; n < 6; n++) {
            wide = "(" + wide + "," + wide + ")";
        }
        TypeLoom loom = check.compiled("def f = fun" + " x".repeat(50) + " -> 1; def k = fun a" + " x".repeat(55) + " -> a;");
        check.answer(loom, "fst (true, " + wide + ")", "bool");
        check.questionError(loom, 9, "@" + wide);
        String deep = "k (".repeat(11) + "1" + ")".repeat(11);
        check.answer(loom, "fst (true, " + deep + ")", "bool");
        check.questionError(loom, 9, "@" + deep);
        check.questionError(loom, 5, "if true then " + deep + " else @" + deep.replace("1", "true"));
        check.questionError(loom, 9, "@if true then " + deep + " else " + deep);
    }

    /** A name that a fun or choice binds can have a type of very many parts. */
    private static void doubled(Check check) {
        check.holds("Two types fit, if what is unknown in them can be made known, so that both are the same; it is"
                + " known then in all that was found so far; an unknown type does not fit a type in which it stands"
                + " itself (but itself).");
        StringBuilder text = new StringBuilder("fun a -> ");
        for (char name = 'a'; name < 'k'; name++) {
            char next = (char) (name + 1);
            text.append("case Cons (").append(name).append(", ").append(name).append(") Nil of Cons ").append(next)
                    .append(" t -> ");
        }
        String deep = text.toString();
        TypeLoom loom = check.compiled("def id = fun x -> x; def y = 2;");
        check.answer(loom, "fst (1, 2)", "int");
        check.answer(loom, deep + "1" + " end".repeat(10), "'a -> int");
        check.questionError(loom, 9, "@" + deep + "k" + " end".repeat(10));
        check.questionError(loom, 5, deep + "k @k" + " end".repeat(10));
        check.questionError(loom, 5, deep + "k = @j" + " end".repeat(10));
        check.answer(loom, deep + "k = k" + " end".repeat(10), "'a -> bool");
        check.programError(9, "def @x = " + deep + "k" + " end".repeat(10) + ";");
        check.same("a program with long types", Check.compile(loom, "def z = true; def x = " + deep + "1" + " end".repeat(10) + ";"), 0);
        loom.write(0);
        check.throwsThis("writeAt of a long type", IllegalStateException.class,
                () -> loom.writeAt(("def z = true; def x = " + deep).lastIndexOf("(j") + 1));
        check.same("the paper stays", Check.paper(loom), "bool");
    }

    private static void manyCalls(Check check) {
        check.holds("An object is used for at most 512 calls after it has been made; what later calls answer is"
                + " free.");
        TypeLoom loom = new TypeLoom();
        String form = "int -> ".repeat(20) + "int";
        // Some forty calls a round: the document tells nothing of an object behind its 512th call.
        for (int n = 0; n < 12; n++) {
            String name = "n" + n;
            check.same("compile " + n, Check.compile(loom, PRELUDE + "type t" + n + " = K; def " + name + " : " + form
                    + " = " + name + "; def last = id two (id " + n + ");"), 0);
            check.same("type " + n, Check.written(loom, 3), "int * int");
            check.same("ask " + n, Check.ask(loom, "two (" + name + " 1)"), 0);
            check.same("its length " + n, loom.count(4), 2 * ("int -> ".repeat(19).length() + 5) + 3);
            check.isTrue("covers " + n, loom.covers(0, 0));
            check.same("meet " + n, loom.meet(0, 1), 0);
        }
    }

    private static void measuresInAnyOrder(Check check) {
        check.holds("0 the parts of its type, 1 how many different marks stand in it, 2 its order:");
        TypeLoom loom = check.compiled("def a = 1; def b = fun x -> x; def c = fun f x y -> f (x, y);");
        int[][] due = {{1, 0, 0}, {3, 1, 1}, {11, 3, 2}};
        for (int what = 2; what >= 0; what--) {
            for (int def = 0; def < 3; def++) {
                check.same("measure " + def + ", " + what, loom.measure(def, what), due[def][what]);
            }
            for (int def = 2; def >= 0; def--) {
                loom.covers(def, 0);
                check.same("measure " + def + ", " + what, loom.measure(def, what), due[def][what]);
            }
        }
    }

    private static void mostOfEverything(Check check) {
        check.holds("Returns how many there are (0 to 2: 0 without a program).");
        StringBuilder text = new StringBuilder();
        for (int n = 0; n < 6; n++) {
            text.append("type t").append(n).append("=");
            for (int k = 0; k < 4; k++) {
                text.append(k == 0 ? "" : "|").append("K").append(n).append((char) ('a' + k));
            }
            text.append(";");
        }
        for (int n = 0; n < 24; n++) {
            text.append("def d").append(n).append("=").append(n == 0 ? "K5d" : "d" + (n - 1)).append(";");
        }
        TypeLoom loom = check.compiled(text.toString());
        check.same("types", loom.count(0), 6);
        check.same("constructors", loom.count(1), 24);
        check.same("definitions", loom.count(2), 24);
        check.same("the last one", Check.written(loom, 23), "t5");
        loom.writeConstructor(23);
        check.same("the last constructor", Check.paper(loom), "t5");
        check.same("uses", loom.uses(23, 22), 1);
        check.same("uses", loom.uses(22, 23), 0);
        check.throwsThis("write", IndexOutOfBoundsException.class, () -> loom.write(24));
        check.throwsThis("writeConstructor", IndexOutOfBoundsException.class, () -> loom.writeConstructor(24));
        check.isTrue("meanParts", loom.meanParts() == 1.0);
    }
}
