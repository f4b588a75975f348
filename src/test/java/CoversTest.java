/** Promises 13 and 14: covers and meet. */
public final class CoversTest {
    private static final String NONE = "";

    public static void main(String[] args) {
        Check check = new Check("CoversTest");
        check.holds("Writes the most general type that both types cover (all marks of the one are others than those"
                + " of the other one), likewise.");
        both(check, "int", "int", true, true, "int");
        both(check, "int", "bool", false, false, NONE);
        both(check, "'a", "int", true, false, "int");
        both(check, "'a", "'b", true, true, "'a");
        both(check, "'a -> 'b", "'a -> 'a", true, false, "'a -> 'a");
        both(check, "'a -> 'b", "int -> bool", true, false, "int -> bool");
        both(check, "'a -> 'a", "int -> bool", false, false, NONE);
        both(check, "'a -> int", "bool -> 'a", false, false, "bool -> int");
        both(check, "'a * 'a", "'b * int", false, false, "int * int");
        both(check, "'a * 'a", "int * int", true, false, "int * int");
        both(check, "'a", "'a -> 'a", true, false, "'a -> 'a");
        both(check, "'a * 'b", "'b * 'a", true, true, "'a * 'b");
        both(check, "'a -> 'b", "'a * 'b", false, false, NONE);
        both(check, "list 'a", "list (list 'b)", true, false, "list (list 'a)");
        both(check, "list 'a", "o 'a", false, false, NONE);
        both(check, "m 'a 'b 'a", "m int 'c 'c", false, false, "m int int int");
        both(check, "'a -> 'a", "'b -> list 'b", false, false, NONE);
        both(check, "'a -> 'b -> 'a", "(int -> 'b) -> 'c", false, false, "(int -> 'a) -> 'b -> int -> 'a");
        both(check, "('a -> 'b) -> 'c", "'a -> 'a", false, false, "('a -> 'b) -> 'a -> 'b");
        both(check, "'a * ('a * 'b)", "('c -> 'c) * ('d * 'd)", false, false,
                "('a -> 'a) * (('a -> 'a) * ('a -> 'a))");
        both(check, "'a * 'a", "(int * int) * (int * bool)", false, false, NONE);
        both(check, "'a * 'a", "(int * 'b) * ('b * int)", false, false, "(int * int) * (int * int)");
        both(check, "'a * 'a", "(int * 'b) * (int * 'b)", true, false, "(int * 'a) * (int * 'a)");
        nothingChanges(check);
        longMeeting(check);
        refuses(check);
        check.end();
    }

    private static void both(Check check, String one, String other, boolean covers, boolean covered, String meeting) {
        TypeLoom loom = check.compiled("type o 'a = O; type m 'a 'b 'c = M; def x : " + one + " = x; def y : "
                + other + " = y;");
        String pair = one + " and " + other;
        check.same("covers of " + pair, loom.covers(0, 1) ? 1 : 0, covers ? 1 : 0);
        check.same("covered of " + pair, loom.covers(1, 0) ? 1 : 0, covered ? 1 : 0);
        check.isTrue("covers of the first and itself", loom.covers(0, 0));
        check.isTrue("covers of the second and itself", loom.covers(1, 1));
        loom.write(0);
        check.same("meet of " + pair, loom.meet(0, 1), meeting.length());
        check.same("paper behind meet of " + pair, Check.paper(loom), meeting);
        check.same("bytes of the paper", loom.count(4), meeting.length());
        loom.write(0);
        check.same("meet of " + pair + ", turned", loom.meet(1, 0), meeting.length());
        String own = Check.written(loom, 0);
        loom.meet(0, 0);
        check.same("meet with itself of " + one, Check.paper(loom), own);
    }

    private static void nothingChanges(Check check) {
        check.holds("Returns whether the type of a becomes that of b, if other types are put in the places of its"
                + " marks (the same one for the same mark).");
        TypeLoom loom = check.compiled("def x = fun a b -> a; def y = fun a -> a + 1; def z = fun a -> (a, a);");
        for (int n = 0; n < 3; n++) {
            check.isFalse("covers", loom.covers(1, 0));
            check.isFalse("covers", loom.covers(0, 2));
            check.same("meet", loom.meet(0, 2), 0);
            check.same("meet", loom.meet(0, 1), 0);
            check.same("write", Check.written(loom, 0), "'a -> 'b -> 'a");
            check.same("write", Check.written(loom, 1), "int -> int");
            check.same("write", Check.written(loom, 2), "'a -> 'a * 'a");
            check.same("marks", loom.measure(0, 1), 2);
        }
        check.same("writeAt", loom.writeAt(19), 2);
        loom.covers(0, 1);
        check.same("the paper stays behind covers", loom.count(4), 2);
    }

    /** The first type has 16 marks in pairs, of 73 bytes without them: with t bytes each, 77 + 17 * t in all. */
    private static void longMeeting(Check check) {
        check.holds("Throws `IllegalStateException` if there would be more than 400");
        TypeLoom loom = check.compiled("type o 'a = O; def x = fun a -> let b = (a, a) in let c = (b, b) in"
                + " let d = (c, c) in (d, d); def y : list (list (o int)) -> 'b = y;"
                + " def z : list (list (o bool)) -> 'b = z;");
        check.same("write", loom.write(0), 77 + 17 * 2);
        check.throwsThis("meet of 417 bytes", IllegalStateException.class, () -> loom.meet(0, 2));
        check.throwsThis("meet of 417 bytes, turned", IllegalStateException.class, () -> loom.meet(2, 0));
        check.same("the paper stays", loom.count(4), 77 + 17 * 2);
        check.same("meet of 400 bytes", loom.meet(0, 1), 400);
        String due = "list (list (o int)) -> (((list (list (o int)) * ";
        for (int k = 0; k < due.length(); k++) {
            check.same("byte " + k, loom.byteAt(k), due.charAt(k));
        }
    }

    private static void refuses(Check check) {
        check.holds("Throws `IndexOutOfBoundsException` if there is no such definition");
        TypeLoom loom = check.compiled("def x = 1; def y = fun a -> a;");
        loom.write(1);
        int[][] wrong = {{2, 0}, {0, 2}, {-1, 0}, {0, -1}, {Integer.MIN_VALUE, 1}, {1, Integer.MAX_VALUE}};
        for (int[] pair : wrong) {
            check.throwsThis("covers " + pair[0] + ", " + pair[1], IndexOutOfBoundsException.class,
                    () -> loom.covers(pair[0], pair[1]));
            check.throwsThis("meet " + pair[0] + ", " + pair[1], IndexOutOfBoundsException.class,
                    () -> loom.meet(pair[0], pair[1]));
        }
        check.same("the paper stays", Check.paper(loom), "'a -> 'a");
        check.throwsThis("covers without a program", IndexOutOfBoundsException.class, () -> new TypeLoom().covers(0, 0));
        check.throwsThis("meet without a program", IndexOutOfBoundsException.class, () -> new TypeLoom().meet(0, 0));
    }
}
