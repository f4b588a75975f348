/** Promise 9: writeAt. */
public final class WriteAtTest {
    public static void main(String[] args) {
        Check check = new Check("WriteAtTest");
        shortestExpression(check);
        placesWithout(check);
        typesInTheEnd(check);
        groupsFromTheLeft(check);
        tooLong(check);
        staysBehindAsk(check);
        check.end();
    }

    /** Below each byte of the text stands the letter of the type that is due there, or a dot. */
    private static void places(Check check, String text, String letters, String... types) {
        for (int place = 0; place < text.length(); place++) {
            TypeLoom loom = check.compiled(text);
            int due = letters.charAt(place) == '.' ? -1 : letters.charAt(place) - 'A';
            String what = "writeAt " + place + " of " + text;
            int here = place;
            if (due < 0) {
                check.throwsThis(what, IndexOutOfBoundsException.class, () -> loom.writeAt(here));
            } else {
                check.same(what, loom.writeAt(place), types[due].length());
                check.same(what, Check.paper(loom), types[due]);
            }
        }
    }

    private static void shortestExpression(Check check) {
        check.holds("Writes the type that was found in the end for the shortest expression of the program to which a"
                + " place belongs (all bytes from that of its first token to that of its last one belong to it),"
                + " likewise.");
        places(check,
                "def x = fun y -> (y, 1 < 2);",
                "........AAAAAAAAABCBBDEEEDB.",
                "'a -> 'a * bool", "'a * bool", "'a", "int", "bool");
        places(check,
                "def z : int = if true then (1) else 2 * 3;",
                "..............AAABBBBAAAAAAAAAAAAAAAAAAAA.",
                "int", "bool");
        places(check,
                "def f = fun l -> case l of Nil -> 0 | Cons h t -> h end;",
                "........AAAAAAAAABBBBBCBBBBBBBBBBBBBBBBBBBBBBBBBBBBBBBB.",
                "list int -> int", "int", "list int");
        places(check,
                "type t = A t ; def x = let a = A in a ;",
                ".......................AAAAAAAAAAAAAA..",
                "t -> t");
        places(check,
                "def a=1;def b =\n ( true\n)  ;",
                "......A..........BBBBBBBB...",
                "int", "bool");
    }

    private static void placesWithout(Check check) {
        check.holds("Throws `IndexOutOfBoundsException` if no expression is there, or there is no program");
        TypeLoom loom = check.compiled("def abc : int -> int = fun y -> y ;");
        int[] without = {0, 2, 3, 4, 6, 8, 10, 16, 21, 22, 33, 34, 35, 36, 1200, -1, -2,
            Integer.MAX_VALUE, Integer.MIN_VALUE};
        for (int place : without) {
            check.throwsThis("writeAt " + place, IndexOutOfBoundsException.class, () -> loom.writeAt(place));
        }
        check.same("writeAt 23", loom.writeAt(23), 10);
        check.same("writeAt 32", loom.writeAt(32), 3);
        Check.compile(loom, "def x = ");
        check.throwsThis("writeAt without a program", IndexOutOfBoundsException.class, () -> loom.writeAt(23));
        check.same("the paper stays", Check.paper(loom), "int");
    }

    private static void typesInTheEnd(Check check) {
        check.holds("Writes the type that was found in the end for the shortest expression of the program to which a"
                + " place belongs (all bytes from that of its first token to that of its last one belong to it),"
                + " likewise.");
        // What is behind a place makes known what stands there.
        at(check, "def f = fun y -> (y, y + 1);", 18, "int");
        at(check, "def f = fun y -> (y, y + 1);", 8, "int -> int * int");
        at(check, "def f : int -> int = fun y -> y;", 30, "int");
        at(check, "def f : int -> int = fun y -> y;", 21, "int -> int");
        at(check, "def f : 'b -> 'a -> 'b = fun y z -> y;", 36, "'a");
        at(check, "def f = fun y -> f (f 1);", 18, "int");
        at(check, "def f = fun y -> f (f 1);", 20, "int -> int");
        // Of a name that is general, each place has a type of its own.
        at(check, "def id = fun y -> y; def x = id id 1;", 29, "(int -> int) -> int -> int");
        at(check, "def id = fun y -> y; def x = id id 1;", 32, "int -> int");
        at(check, "def x = let g = fun y -> y in (g 1, g true);", 16, "'a -> 'a");
        at(check, "def x = let g = fun y -> y in (g 1, g true);", 25, "'a");
        at(check, "def x = let g = fun y -> y in (g 1, g true);", 31, "int -> int");
        at(check, "def x = let g = fun y -> y in (g 1, g true);", 36, "bool -> bool");
        at(check, "def x = Cons 1 Nil;", 15, "list int");
        at(check, "def x = Cons 1 Nil;", 8, "int -> list int -> list int");
        at(check, "def x = fst (1, Nil);", 16, "list 'a");
    }

    private static void at(Check check, String text, int place, String due) {
        TypeLoom loom = check.compiled(text);
        check.same("length at " + place + " of " + text, loom.writeAt(place), due.length());
        check.same("type at " + place + " of " + text, Check.paper(loom), due);
    }

    private static void groupsFromTheLeft(Check check) {
        check.holds("Operators of one level, and calls, group from the left.");
        places(check,
                "def x = fun f -> f 1 true + 2 * 3 - 4;",
                "........AAAAAAAAABCDDEEEEDDDDDDDDDDDD.",
                "(int -> bool -> int) -> int", "int -> bool -> int", "bool -> int", "int", "bool");
    }

    private static void tooLong(Check check) {
        check.holds("Throws `IllegalStateException` if there would be more than 400");
        String text = "def x = fst (1, fun" + " y".repeat(70) + " -> y); def z = true;";
        TypeLoom loom = check.compiled(text);
        loom.write(1);
        check.throwsThis("writeAt of a long type", IllegalStateException.class, () -> loom.writeAt(16));
        check.same("the paper stays", Check.paper(loom), "bool");
        check.throwsThis("writeAt ahead of it", IndexOutOfBoundsException.class, () -> loom.writeAt(7));
        check.same("writeAt of its end", loom.writeAt(text.indexOf("y);")), 2);
    }

    private static void staysBehindAsk(Check check) {
        check.holds("Writes the type that was found in the end for the shortest expression of the program to which a"
                + " place belongs (all bytes from that of its first token to that of its last one belong to it),"
                + " likewise.");
        TypeLoom loom = check.compiled("def id = fun y -> y;");
        check.answer(loom, "id 1", "int");
        check.same("ask with an error", Check.ask(loom, "id 1 2 + true"), 5);
        loom.feed(0, 0, 0, 0, 0);
        check.same("writeAt behind ask", loom.writeAt(18), 2);
        check.same("its paper", Check.paper(loom), "'a");
        check.same("writeAt behind ask", loom.writeAt(9), 8);
    }
}
