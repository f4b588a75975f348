/** Promises 6, 11, 12 and 16: count, measure, uses, meanParts. */
public final class MeasureTest {
    public static void main(String[] args) {
        Check check = new Check("MeasureTest");
        counts(check);
        measures(check);
        measureRefuses(check);
        uses(check);
        usesMeanDefinitions(check);
        mean(check);
        check.end();
    }

    private static void counts(Check check) {
        check.holds("Returns how many there are (0 to 2: 0 without a program).");
        TypeLoom loom = check.compiled("type t = A | B; def x = 1; type u 'a = C; def y = 2; def z = true;");
        int[] due = {2, 3, 3, 0, 0};
        for (int what = 0; what < due.length; what++) {
            check.same("count " + what, loom.count(what), due[what]);
        }
        loom.write(2);
        check.same("count of the paper", loom.count(4), 4);
        loom.feed(1, 2, 3, 4, 5);
        check.same("count of the tape", loom.count(3), 20);
        check.same("definitions while the tape is fed", loom.count(2), 3);
        check.throwsThis("count(5)", IndexOutOfBoundsException.class, () -> loom.count(5));
        check.throwsThis("count(-1)", IndexOutOfBoundsException.class, () -> loom.count(-1));
        check.throwsThis("count(MIN)", IndexOutOfBoundsException.class, () -> loom.count(Integer.MIN_VALUE));
        check.throwsThis("count(MAX)", IndexOutOfBoundsException.class, () -> loom.count(Integer.MAX_VALUE));
        loom.trim(0);
        Check.compile(loom, "def a = 1;");
        check.same("types of another program", loom.count(0), 0);
        check.same("constructors of another program", loom.count(1), 0);
        check.same("definitions of another program", loom.count(2), 1);
    }

    private static void measures(Check check) {
        check.holds("0 the parts of its type, 1 how many different marks stand in it, 2 its order:");
        measured(check, "int", 1, 0, 0);
        measured(check, "bool", 1, 0, 0);
        measured(check, "'a", 1, 1, 0);
        measured(check, "u", 1, 0, 0);
        measured(check, "int * bool", 3, 0, 0);
        measured(check, "'a * 'a", 3, 1, 0);
        measured(check, "'a * 'b", 3, 2, 0);
        measured(check, "int -> int", 3, 0, 1);
        measured(check, "int -> int -> int", 5, 0, 1);
        measured(check, "(int -> int) -> int", 5, 0, 2);
        measured(check, "int -> (int -> int) -> int", 7, 0, 2);
        measured(check, "((int -> int) -> int) -> int", 7, 0, 3);
        measured(check, "int * (int -> int)", 5, 0, 1);
        measured(check, "(int -> int) * int", 5, 0, 1);
        measured(check, "int * (int -> int) -> int", 7, 0, 2);
        measured(check, "list ((int -> int) -> int)", 6, 0, 2);
        measured(check, "list (list 'a)", 3, 1, 0);
        measured(check, "m 'a 'b 'c", 4, 3, 0);
        measured(check, "m 'a 'a (u -> 'd)", 6, 2, 1);
        measured(check, "m int (int -> int) ((int -> int) -> u)", 10, 0, 2);
        measured(check, "m ((int -> int) -> u) u u", 8, 0, 2);
        measured(check, "'a -> 'b -> 'c -> 'd -> 'a", 9, 4, 1);
    }

    private static void measured(Check check, String form, int parts, int marks, int order) {
        TypeLoom loom = check.compiled("type u = U; type m 'a 'b 'c = M; def y = 1; def x : " + form + " = x;");
        check.same("parts of " + form, loom.measure(1, 0), parts);
        check.same("marks of " + form, loom.measure(1, 1), marks);
        check.same("order of " + form, loom.measure(1, 2), order);
        check.same("the paper stays", loom.count(4), 0);
    }

    private static void measureRefuses(Check check) {
        check.holds("Throws `IndexOutOfBoundsException` if there is no such definition, or what is not 0 to 2");
        TypeLoom loom = check.compiled("def x = 1;");
        int[][] wrong = {{1, 0}, {-1, 0}, {0, 3}, {0, -1}, {Integer.MAX_VALUE, 1}, {0, Integer.MIN_VALUE}};
        for (int[] pair : wrong) {
            check.throwsThis("measure " + pair[0] + ", " + pair[1], IndexOutOfBoundsException.class,
                    () -> loom.measure(pair[0], pair[1]));
            check.throwsThis("measure without a program", IndexOutOfBoundsException.class,
                    () -> new TypeLoom().measure(pair[0], pair[1]));
        }
    }

    private static void uses(Check check) {
        check.holds("Returns how often the name of the definition b stands in the expression of a, and means it.");
        TypeLoom loom = check.compiled("def a = 1; def b = a + a; def c = fun x -> c (b + a) + x; def d = d;");
        int[][] due = {{0, 0, 0, 0}, {2, 0, 0, 0}, {1, 1, 1, 0}, {0, 0, 0, 1}};
        for (int user = 0; user < 4; user++) {
            for (int named = 0; named < 4; named++) {
                check.same("uses " + user + ", " + named, loom.uses(user, named), due[user][named]);
            }
        }
        check.answer(loom, "(a, c)", "int * (int -> int)");
        check.same("uses behind ask", loom.uses(0, 0), 0);
        check.same("uses behind ask", loom.uses(2, 2), 1);
        int[][] wrong = {{4, 0}, {0, 4}, {-1, 0}, {0, -1}, {Integer.MAX_VALUE, 0}, {0, Integer.MIN_VALUE}};
        for (int[] pair : wrong) {
            check.throwsThis("uses " + pair[0] + ", " + pair[1], IndexOutOfBoundsException.class,
                    () -> loom.uses(pair[0], pair[1]));
        }
        Check.compile(loom, "def a = 1; def b = 2; def c = 3;");
        check.same("uses in another program", loom.uses(1, 0), 0);
        check.same("uses in another program", loom.uses(2, 2), 0);
    }

    /** A name that a let, fun or choice binds does not mean the definition. */
    private static void usesMeanDefinitions(Check check) {
        check.holds("Returns how often the name of the definition b stands in the expression of a, and means it.");
        TypeLoom loom = check.compiled("def a = 1;"
                + " def b = (fun a -> a) a;"
                + " def c = let a = a in a + a;"
                + " def d = fun l -> case l of Cons a t -> a + a | Nil -> a end;"
                + " def e = fun e -> e;"
                + " def f = fst (1, 2); def fst = fun x -> x; def g = fst 1;");
        check.same("b uses a", loom.uses(1, 0), 1);
        check.same("c uses a", loom.uses(2, 0), 1);
        check.same("d uses a", loom.uses(3, 0), 1);
        check.same("e uses e", loom.uses(4, 4), 0);
        check.same("f uses fst", loom.uses(5, 6), 0);
        check.same("g uses fst", loom.uses(7, 6), 1);
        TypeLoom next = check.compiled("def a : int = 1; type a = A; def b : a = A; def c = a;");
        check.same("a form uses nothing", next.uses(1, 0), 0);
        check.same("c uses a", next.uses(2, 0), 1);
    }

    private static void mean(Check check) {
        check.holds("Returns the mean of the parts of the types of all definitions; 0 if there are none.");
        isMean(check, "def x = 1;", 1.0);
        isMean(check, "def x = 1; def y = fun z -> z;", 2.0);
        isMean(check, "def x = 1; def y = 2; def z = (1, 2);", 5.0 / 3);
        isMean(check, "type t = A;", 0.0);
        TypeLoom loom = check.compiled("def x = (1, 2);");
        Check.compile(loom, "def x = y;");
        check.isTrue("meanParts behind an error", loom.meanParts() == 0.0);
    }

    private static void isMean(Check check, String text, double due) {
        check.isTrue("meanParts of " + text, check.compiled(text).meanParts() == due);
    }
}
