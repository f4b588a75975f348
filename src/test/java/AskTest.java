/** Promise 15: ask. */
public final class AskTest {
    public static void main(String[] args) {
        Check check = new Check("AskTest");
        withoutProgram(check);
        withProgram(check);
        errors(check);
        errorsChangeNothing(check);
        fourHundredBytes(check);
        nothingIsLearned(check);
        check.end();
    }

    private static void withoutProgram(Check check) {
        check.holds("Reads the tape as an expression, in which all of the program is known (without a program what"
                + " is known at the beginning alone), and writes its type; the paper stays if there is an error, or"
                + " more than 400 bytes would be needed.");
        TypeLoom loom = new TypeLoom();
        check.answer(loom, "1", "int");
        check.answer(loom, "\n fun x -> x ", "'a -> 'a");
        check.answer(loom, "fst", "'a * 'b -> 'a");
        check.answer(loom, "(snd, Nil)", "('a * 'b -> 'b) * list 'c");
        check.answer(loom, "Cons fst Nil", "list ('a * 'b -> 'a)");
        check.answer(loom, "let x = 1 in x < 2", "bool");
        check.answer(loom, "case Nil of Cons h t -> (h, t) | Nil -> (1, Nil) end", "int * list int");
        check.answer(loom, "if 1 = 2 then fun x -> x + 1 else fun y -> y", "int -> int");
        for (int what = 0; what < 4; what++) {
            check.same("count behind ask " + what, loom.count(what), 0);
        }
        check.throwsThis("writeAt behind ask", IndexOutOfBoundsException.class, () -> loom.writeAt(0));
    }

    private static void withProgram(Check check) {
        check.holds("Reads the tape as an expression, in which all of the program is known (without a program what"
                + " is known at the beginning alone), and writes its type; the paper stays if there is an error, or"
                + " more than 400 bytes would be needed.");
        TypeLoom loom = check.compiled("type o 'a = N | S 'a; def id = fun x -> x; def fst = fun x -> S x;"
                + " def g : 'a -> 'b -> 'a = fun x y -> x;");
        check.answer(loom, "id", "'a -> 'a");
        check.answer(loom, "(id 1, id true)", "int * bool");
        check.answer(loom, "fst 1", "o int");
        check.answer(loom, "snd (1, N)", "o 'a");
        check.answer(loom, "case S (1, 2) of S p -> p end", "int * int");
        check.answer(loom, "g", "'a -> 'b -> 'a");
        check.answer(loom, "g id N true", "bool");
        check.answer(loom, "fun id -> id 1", "(int -> 'a) -> 'a");
        check.same("definitions stay", loom.count(2), 3);
        check.same("types stay", loom.count(0), 1);
    }

    private static void errors(Check check) {
        check.holds("Returns 0, or the error, 1, 2, 5, 6, 7 or 9 (9 at its first token, if the type would need more"
                + " than 400 bytes).");
        TypeLoom loom = check.compiled("type o 'a = N | S 'a; def id = fun x -> x;");
        check.questionError(loom, 1, "@");
        check.questionError(loom, 1, "  @");
        check.questionError(loom, 1, "@def x = 1;");
        check.questionError(loom, 1, "1@;");
        check.questionError(loom, 1, "(1@");
        check.questionError(loom, 1, "1 @#");
        check.questionError(loom, 1, "1 @then");
        check.questionError(loom, 1, "@type");
        check.questionError(loom, 1, "(".repeat(13) + "@1" + ")".repeat(13));
        check.answer(loom, "(".repeat(12) + "1" + ")".repeat(12), "int");
        check.questionError(loom, 1, "fun x -> ".repeat(13) + "@x");
        check.questionError(loom, 2, "1 + @x");
        check.questionError(loom, 2, "@X");
        check.questionError(loom, 2, "case N of @X -> 1 end");
        check.questionError(loom, 5, "1 + @true");
        check.questionError(loom, 5, "fun x -> x @x");
        check.questionError(loom, 5, "id 1 @2");
        check.questionError(loom, 5, "case 1 of @N -> 1 end");
        check.questionError(loom, 6, "case N of @S -> 1 end");
        check.questionError(loom, 6, "case N of @N y -> 1 end");
        check.questionError(loom, 7, "case N of N -> 1 | @N -> 1 end");
        check.questionError(loom, 9, "1 + (let @f = fun" + " x".repeat(60) + " -> 1 in f)");
        check.answer(loom, "fst (1, fun" + " x".repeat(60) + " -> 1)", "int");
    }

    private static void errorsChangeNothing(Check check) {
        check.holds("Reads the tape as an expression, in which all of the program is known (without a program what"
                + " is known at the beginning alone), and writes its type; the paper stays if there is an error, or"
                + " more than 400 bytes would be needed.");
        TypeLoom loom = check.compiled("def id = fun x -> x;");
        loom.write(0);
        check.questionError(loom, 2, "@y");
        check.same("the paper stays", Check.paper(loom), "'a -> 'a");
        check.same("the program stays", loom.count(2), 1);
        check.answer(loom, "id 1", "int");
        check.same("the error is gone", loom.errorAt(), -1);
        check.questionError(loom, 1, "1 @)");
        check.same("the paper stays", Check.paper(loom), "int");
        check.same("the program stays", Check.written(loom, 0), "'a -> 'a");
    }

    /** Each name of a fun takes 6 bytes. */
    private static void fourHundredBytes(Check check) {
        check.holds("Returns 0, or the error, 1, 2, 5, 6, 7 or 9 (9 at its first token, if the type would need more"
                + " than 400 bytes).");
        TypeLoom loom = new TypeLoom();
        check.answer(loom, "fun" + " x".repeat(66) + " -> true", letters(66) + "bool");
        check.same("400 bytes", loom.count(4), 400);
        tooManyBytes(check);
    }

    private static void tooManyBytes(Check check) {
        check.holds("Returns 0, or the error, 1, 2, 5, 6, 7 or 9 (9 at its first token, if the type would need more"
                + " than 400 bytes).");
        TypeLoom loom = new TypeLoom();
        check.answer(loom, "1", "int");
        check.questionError(loom, 9, " \n@fun" + " x".repeat(66) + " -> (Nil)");
        check.same("the paper stays", Check.paper(loom), "int");
        check.questionError(loom, 9, "@fun" + " x".repeat(67) + " -> 1");
        check.questionError(loom, 9, "@(fun" + " x".repeat(200) + " -> 1)");
        check.same("the paper stays", Check.paper(loom), "int");
        check.questionError(loom, 9, "@" + "let d = fun x -> (x, x) in d (d (d (d (d (d (d (d 1)))))))");
        check.answer(loom, "fst (true, " + "let d = fun x -> (x, x) in d (d (d (d (d (d (d (d 1))))))))", "bool");
    }

    private static String letters(int names) {
        StringBuilder text = new StringBuilder();
        for (int n = 0; n < names; n++) {
            text.append('\'').append((char) ('a' + n % 26)).append(" -> ");
        }
        return text.toString();
    }

    /** A question leaves the types of the program as they were. */
    private static void nothingIsLearned(Check check) {
        check.holds("Reads the tape as an expression, in which all of the program is known (without a program what"
                + " is known at the beginning alone), and writes its type; the paper stays if there is an error, or"
                + " more than 400 bytes would be needed.");
        TypeLoom loom = check.compiled("def f = fun x y -> x; def n = Nil; def p = fun x -> let g = fun z -> z in g x;");
        long digest = loom.digest();
        check.answer(loom, "(f 1 n, Cons true n)", "int * list bool");
        check.questionError(loom, 5, "f 1 2 @3");
        check.questionError(loom, 5, "Cons 1 n = @Cons true n");
        check.answer(loom, "p (f 1)", "'a -> int");
        check.answer(loom, "p n = Cons 1 Nil", "bool");
        check.same("f", Check.written(loom, 0), "'a -> 'b -> 'a");
        check.same("n", Check.written(loom, 1), "list 'a");
        check.same("p", Check.written(loom, 2), "'a -> 'a");
        check.same("meet without a type", loom.meet(0, 1), 0);
        check.same("digest", loom.digest(), digest);
    }
}
