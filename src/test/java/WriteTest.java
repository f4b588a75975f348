/** Promises 7, 8 and 10: write, writeConstructor, byteAt, and the form of what is written. */
public final class WriteTest {
    public static void main(String[] args) {
        Check check = new Check("WriteTest");
        brackets(check);
        letters(check);
        writesDefinitions(check);
        writesConstructors(check);
        fourHundredBytes(check);
        bytes(check);
        check.end();
    }

    private static void brackets(Check check) {
        check.holds("In ( and ) stand: a pair or function as the left or right part of a pair; a function as the"
                + " left part of a function; a pair, a function, or a name with parts as a part of a name.");
        written(check, "int * int", "int * int");
        written(check, "(int * int) * int", "(int * int) * int");
        written(check, "int * (int * int)", "int * (int * int)");
        written(check, "(int -> int) * int", "(int -> int) * int");
        written(check, "int * (int -> int)", "int * (int -> int)");
        written(check, "int -> (int -> int)", "int -> int -> int");
        written(check, "(int -> int) -> int", "(int -> int) -> int");
        written(check, "(int * int) -> int", "int * int -> int");
        written(check, "int -> (int * int)", "int -> int * int");
        written(check, "list (int * int)", "list (int * int)");
        written(check, "list (int -> int)", "list (int -> int)");
        written(check, "list (list (list int))", "list (list (list int))");
        written(check, "(list int) * (list bool)", "list int * list bool");
        written(check, "(list int) -> (list bool)", "list int -> list bool");
        written(check, "list (((bool)))", "list bool");
        written(check, "m (list u) u (u * u)", "m (list u) u (u * u)");
        written(check, "m (m u u u) int (u -> u) -> u", "m (m u u u) int (u -> u) -> u");
        written(check, "((int -> int) * list u -> u) -> u", "((int -> int) * list u -> u) -> u");
    }

    /** A definition that is its own expression has any type. */
    private static void written(Check check, String form, String due) {
        check.typeOfLast("type u = U; type m 'a 'b 'c = M; def x : " + form + " = x;", due);
    }

    private static void letters(Check check) {
        check.holds("A type is written: int, bool, marks as 'a, 'b and so on, in the order in which they stand in it"
                + " (what is unknown or general, and the marks of a form; behind 'z comes 'a again);");
        check.typeOfLast("def x = fun a b c -> (c, (b, a));", "'a -> 'b -> 'c -> 'c * ('b * 'a)");
        check.typeOfLast("def x : 'c -> 'b -> 'c = fun y z -> y;", "'a -> 'b -> 'a");
        StringBuilder due = new StringBuilder();
        for (int n = 0; n < 30; n++) {
            due.append('\'').append((char) ('a' + n % 26)).append(" -> ");
        }
        check.typeOfLast("def x = fun" + " y".repeat(30) + " -> 1;", due + "int");
        check.typeOfLast("def x = fun" + " y".repeat(29) + " z -> z;", due + "'d");
        check.typeOfLast("def x = fun a" + " y".repeat(29) + " -> a;", due + "'a");
    }

    private static void writesDefinitions(Check check) {
        check.holds("Writes the type of a definition on the paper, in the place of what was there.");
        TypeLoom loom = check.compiled("def a = 1; def b = true; def c = fun x -> x; def d = Nil;");
        check.same("write(0)", loom.write(0), 3);
        check.same("paper", Check.paper(loom), "int");
        check.same("write(2)", loom.write(2), 8);
        check.same("paper", Check.paper(loom), "'a -> 'a");
        check.same("write(1)", loom.write(1), 4);
        check.same("paper", Check.paper(loom), "bool");
        check.same("count of the paper", loom.count(4), 4);
        check.same("write(3)", loom.write(3), 7);
        check.throwsThis("write(4)", IndexOutOfBoundsException.class, () -> loom.write(4));
        check.throwsThis("write(-1)", IndexOutOfBoundsException.class, () -> loom.write(-1));
        check.throwsThis("write(MAX)", IndexOutOfBoundsException.class, () -> loom.write(Integer.MAX_VALUE));
        check.throwsThis("write(MIN)", IndexOutOfBoundsException.class, () -> loom.write(Integer.MIN_VALUE));
        check.same("paper behind it", Check.paper(loom), "list 'a");
    }

    private static void writesConstructors(Check check) {
        check.holds("Writes the type of a constructor, likewise.");
        TypeLoom loom = check.compiled("type t 'b 'a = A | B 'a 'b (t 'a 'b); def x = 1; type u = C (int -> bool) (int * u) (list u);");
        check.same("writeConstructor(0)", loom.writeConstructor(0), 7);
        check.same("A", Check.paper(loom), "t 'a 'b");
        loom.writeConstructor(1);
        check.same("B", Check.paper(loom), "'a -> 'b -> t 'a 'b -> t 'b 'a");
        loom.writeConstructor(2);
        check.same("C", Check.paper(loom), "(int -> bool) -> int * u -> list u -> u");
        check.throwsThis("writeConstructor(3)", IndexOutOfBoundsException.class, () -> loom.writeConstructor(3));
        check.throwsThis("writeConstructor(-1)", IndexOutOfBoundsException.class, () -> loom.writeConstructor(-1));
        check.throwsThis("writeConstructor(-2)", IndexOutOfBoundsException.class, () -> loom.writeConstructor(-2));
        check.throwsThis("writeConstructor(MIN)", IndexOutOfBoundsException.class,
                () -> loom.writeConstructor(Integer.MIN_VALUE));
        check.same("paper behind it", Check.paper(loom), "(int -> bool) -> int * u -> list u -> u");
    }

    private static void fourHundredBytes(Check check) {
        check.holds("Throws `IllegalStateException` if there would be more than 400");
        String many = "bool -> ".repeat(48);
        TypeLoom loom = check.compiled("type t = K (" + many + "list (list bool)) | L (int * int); def x : "
                + many + "list (list bool) = x;");
        check.same("400 bytes", loom.write(0), 400);
        check.same("count of the paper", loom.count(4), 400);
        check.same("the last byte", loom.byteAt(399), ')');
        check.throwsThis("writeConstructor of 407", IllegalStateException.class, () -> loom.writeConstructor(0));
        check.same("count of the paper", loom.count(4), 400);
        check.same("writeConstructor of another", loom.writeConstructor(1), "int * int -> t".length());

        TypeLoom next = check.compiled("def x = 1; def y : " + "bool -> ".repeat(49) + "bool * 'a = y;");
        next.write(0);
        check.throwsThis("write of 401", IllegalStateException.class, () -> next.write(1));
        check.same("the paper stays", Check.paper(next), "int");
        check.throwsThis("write of no definition", IndexOutOfBoundsException.class, () -> next.write(2));
    }

    private static void bytes(Check check) {
        check.holds("Returns the byte there.");
        TypeLoom loom = check.compiled("def x = fun y -> (y, 1);");
        check.throwsThis("byteAt of an empty paper", IndexOutOfBoundsException.class, () -> loom.byteAt(0));
        loom.write(0);
        String due = "'a -> 'a * int";
        for (int k = 0; k < due.length(); k++) {
            check.same("byteAt " + k, loom.byteAt(k), due.charAt(k));
        }
        check.throwsThis("byteAt(14)", IndexOutOfBoundsException.class, () -> loom.byteAt(14));
        check.throwsThis("byteAt(-1)", IndexOutOfBoundsException.class, () -> loom.byteAt(-1));
        check.throwsThis("byteAt(MIN)", IndexOutOfBoundsException.class, () -> loom.byteAt(Integer.MIN_VALUE));
        check.throwsThis("byteAt(MAX)", IndexOutOfBoundsException.class, () -> loom.byteAt(Integer.MAX_VALUE));
    }
}
