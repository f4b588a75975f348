/** Promises 4 and 5: the errors of meaning in definitions and their expressions. */
public final class DefinitionErrorsTest {
    public static void main(String[] args) {
        Check check = new Check("DefinitionErrorsTest");
        numberAndNames(check);
        namesThatAreNotKnown(check);
        ownName(check);
        fitting(check);
        choices(check);
        formThatIsTooGeneral(check);
        partsOfTypes(check);
        orderOfErrors(check);
        programIsGone(check);
        check.end();
    }

    private static String definitions(int from, int to) {
        StringBuilder text = new StringBuilder();
        for (int n = from; n < to; n++) {
            text.append("def d").append(n).append("=1;");
        }
        return text.toString();
    }

    private static void numberAndNames(Check check) {
        check.holds("A definition: Error 4 (at def): a 25th one. Error 3 (at the name): a definition ahead has it.");
        check.same("definitions", check.compiled(definitions(0, 24)).count(2), 24);
        check.programError(4, definitions(0, 24) + "@def d24=1;");
        check.programError(4, definitions(0, 24) + "@def d0=y;");
        check.programError(3, "def x = 1; def @x = 2;");
        check.programError(3, "def x = 1; def y = 1; def @x = z;");
        check.compiled("def fst = 1; def snd = 2; def int = 3; def list = 4;");
        check.programError(3, "def fst = 1; def @fst = 2;");
    }

    private static void namesThatAreNotKnown(Check check) {
        check.holds("name: that of the nearest let, fun or choice around that binds it (of a fun the last one with"
                + " this name), otherwise that of the definition (its own, or one ahead); what is general in it is"
                + " unknown anew; Error 2 (at the name): there is none (definitions behind are not known).");
        check.programError(2, "def x = @y;");
        check.programError(2, "def x = @y; def y = 1;");
        check.programError(2, "def x = 1 + (fun z -> z) @y;");
        check.programError(2, "def x = (fun z -> z) @z;");
        check.programError(2, "def x = let z = @z in 1;");
        check.programError(2, "def x = (let z = 1 in z) + @z;");
        check.programError(2, "def x = case Nil of Nil -> @a | Cons a b -> 2 end;");
        check.programError(2, "def x = (case Nil of Cons a b -> 1 end) + @a;");
        check.programError(2, "def x = @A;");
        check.programError(2, "def x = @int;");
        check.programError(2, "def x = case Nil of @A -> 1 end;");
        check.programError(2, "def x = @A; type t = A;");
    }

    private static void ownName(Check check) {
        check.holds("Then the type of its expression is found, where its own name has an unknown type, the same one"
                + " in all of it; Error 5 (at the first token of the expression): both do not fit.");
        check.typeOfLast("def f = fun x -> f x;", "'a -> 'b");
        check.programError(5, "def f = @fun x -> f;");
        check.programError(5, "def f = @(f, f);");
        check.programError(5, "def f = fun x -> (f 1, f @true);");
        check.programError(5, "def f = @Cons f Nil;");
        check.typeOfLast("def f = f;", "'a");
        check.programError(5, "def f = let g = f in (g 1, g @true);");
        check.programError(5, "def f = fun x -> let y = f x in y @y;");
        check.programError(5, "def f = fun x -> let y = f x in (y + 1, if @y then 1 else 2);");
    }

    private static void fitting(Check check) {
        check.holds("Two types fit, if what is unknown in them can be made known, so that both are the same; it is"
                + " known then in all that was found so far; an unknown type does not fit a type in which it stands"
                + " itself (but itself).");
        check.programError(5, "def x = 1 @2;");
        check.programError(5, "def x = fst @1;");
        check.programError(5, "def x = fst (1, 2) @3;");
        check.programError(5, "def x = (fun f -> f 1) @(2);");
        check.programError(5, "def x = fun f -> f @f;");
        check.programError(5, "def x = @true + 1;");
        check.programError(5, "def x = 1 + @true;");
        check.programError(5, "def x = 1 + 2 - @(3, 4);");
        check.programError(5, "def x = 1 * 2 * @fst;");
        check.programError(5, "def x = @Nil * 2;");
        check.programError(5, "def x = 1 < @true;");
        check.programError(5, "def x = @(1, 2) < (1, 2);");
        check.programError(5, "def x = 1 = @true;");
        check.programError(5, "def x = 1 + 2 = @fst (true, 1);");
        check.programError(5, "def x = (1, true) = @(1, 2);");
        check.compiled("def x = (1, true) = (2, false);");
        check.compiled("def x = fst = fst;");
        check.programError(5, "def x = if @1 then 2 else 3;");
        check.programError(5, "def x = if true then 2 else @false;");
        check.programError(5, "def x = if true then Cons 1 Nil else @Cons true Nil;");
        check.programError(5, "def x = Cons 1 @(Cons true Nil);");
        check.programError(5, "def x = Cons 1 (Cons true @(Cons 1 Nil));");
        check.programError(5, "def x = Cons 1 @2;");
        check.programError(5, "def x = fun y -> (y + 1, if @y then 1 else 2);");
        check.programError(5, "def id = fun x -> x; def y = fun f -> (f 1, f @true);");
        check.programError(5, "def x = fun y -> y = @(y, y);");
        check.programError(5, "def x = fun y -> y = @(fun z -> y);");
        check.compiled("def x = fun y -> y = y;");
    }

    private static void choices(Check check) {
        check.holds("case e of ..: that of e is found; then for each choice: Error 2 (at the capital): it is not"
                + " known; Error 7 (at it): it stood in a choice of this case ahead; Error 6 (at it): more or fewer"
                + " names than the constructor has parts;");
        check.programError(7, "def x = case Nil of Nil -> 1 | @Nil -> 2 end;");
        check.programError(7, "def x = case Nil of Cons a b -> 1 | Nil -> 1 | @Cons -> 2 end;");
        check.compiled("def x = case Nil of Nil -> case Nil of Nil -> 1 end | Cons a b -> 2 end;");
        check.programError(6, "def x = case Nil of @Nil y -> 1 end;");
        check.programError(6, "def x = case Nil of @Cons y -> 1 end;");
        check.programError(6, "def x = case Nil of @Cons y z w -> 1 end;");
        check.programError(6, "def x = case 1 of @Cons y -> 1 end;");
        check.programError(5, "def x = case 1 of @Nil -> 1 end;");
        check.programError(5, "type t = A; def x = case A of A -> 1 | @Nil -> 2 end;");
        check.programError(5, "type t = A; def x = case Nil of @A -> y end;");
        check.programError(5, "def x = case Nil of Nil -> 1 | Cons a b -> @true end;");
        check.programError(5, "def x = case Cons 1 Nil of Cons a b -> if @a then 1 else 2 end;");
        check.programError(5, "def x = case Nil of Nil -> 1 | Cons a b -> @b end;");
        check.programError(2, "def x = case @y of A -> 1 end;");
        check.programError(2, "def x = case Nil of Nil -> @y | Nil -> 1 end;");
    }

    private static void formThatIsTooGeneral(Check check) {
        check.holds("Error 8 (at the first token of the form): the type that was found does not fit the form, if"
                + " each mark in it is a type of its own that fits nothing else.");
        check.programError(8, "def x : @bool = 1;");
        check.programError(8, "def f : @'a -> 'a = fun x -> x + 1;");
        check.programError(8, "def f : @'a -> 'b = fun x -> x;");
        check.programError(8, "def f : @'a -> 'b -> 'a * 'a = fun x y -> (x, y);");
        check.programError(8, "def f : @('a -> 'b) -> 'a = fun x -> x;");
        check.programError(8, "def f : @'a = fun x -> x;");
        check.programError(8, "def f : @list 'a = Cons 1 Nil;");
        check.programError(8, "def f : @((int)) = true;");
        check.typeOfLast("def f : int -> int = fun x -> x;", "int -> int");
        check.typeOfLast("def f : 'b -> 'a -> 'b = fun x y -> x;", "'a -> 'b -> 'a");
        check.typeOfLast("def f : 'q = f;", "'a");
        check.typeOfLast("def f : 'a -> 'b = fun x -> f x;", "'a -> 'b");
        check.programError(8, "def f : @'a -> 'b = fun x -> f (f x);");
        check.programError(5, "def f : int -> int = @fun x -> f true + x;");
    }

    /** A type may have 120 parts: a function from n int to int has 2 * n + 1, a pair one more than both sides. */
    private static void partsOfTypes(Check check) {
        check.holds("Error 9 (at the name): the type has more than 120 parts (int, bool, marks, what is unknown,"
                + " names, *, ->, each as often as it stands there).");
        String names = " x".repeat(59);
        check.same("parts", check.compiled("def f = fun" + names + " -> 1;").measure(0, 0), 119);
        check.programError(9, "def @f = fun" + " x".repeat(60) + " -> 1;");
        check.same("parts", check.compiled("def f = fun" + names + " -> Nil;").measure(0, 0), 120);
        check.programError(9, "def @f = fun" + names + " -> Cons Nil Nil;");
        check.programError(9, "def @f = fun" + names + " -> fst;");
        check.programError(9, "def f = let @g = fun" + " x".repeat(60) + " -> 1 in 1;");
        check.programError(9, "def f = let @g = fun" + " x".repeat(60) + " -> 1 in y;");
        check.programError(2, "def f = let g = fun" + " x".repeat(60) + " -> @y in 1;");
        check.compiled("def f = let g = fun" + names + " -> Nil in 1;");
        check.programError(9, "def @f : " + "int -> ".repeat(60) + "int = fun" + " x".repeat(60) + " -> 1;");
        check.compiled("def f : " + "int -> ".repeat(59) + "int = fun" + names + " -> 1;");
        check.programError(8, "def f : @" + "int -> ".repeat(60) + "int = 1;");
        check.compiled("def f = fst (1, fun" + " x".repeat(70) + " -> 1);");
        String doubles = "fun a -> let b = (a, a) in let c = (b, b) in let d = (c, c) in let e = (d, d) in let f = (e, e) in ";
        check.compiled("def x = " + doubles + "f;");
        check.programError(9, "def @x = " + doubles + "(f, f);");
        check.programError(9, "def x = " + doubles + "let @g = (f, f) in 1;");
    }

    private static void orderOfErrors(Check check) {
        check.holds("Only if there is no error of form, the meaning is looked at, item by item, in each in the order"
                + " told below: the first error is told (of two at one place that which is told first here; a part"
                + " too many ahead of what is in it).");
        check.programError(5, "def x = 1 + @true + y;");
        check.programError(2, "def x = 1 + @y + true;");
        check.programError(5, "def x = (@true + 1) + y;");
        check.programError(2, "def x = true = @y;");
        check.programError(2, "def x = 1 @y;");
        check.programError(5, "def x = 1 @true y;");
        check.programError(5, "def x = if @1 then y else z;");
        check.programError(2, "def x = if true then 1 else @y;");
        check.programError(2, "def x = let a = @b in 1 + true;");
        check.programError(5, "def x = @true + 1; def f = g;");
        check.programError(5, "def x = @true < y;");
        check.programError(2, "def x : @t = 1 + true;");
        check.programError(5, "def x : int = 1 + @true;");
        check.programError(5, "def f : int = @fun x -> f;");
        check.programError(5, "def x = case 1 of @Nil -> y end;");
    }

    private static void programIsGone(Check check) {
        check.holds("Compiles the tape as a program. The program that was there is gone in any case.");
        TypeLoom loom = check.compiled("type t = A; def x = 1;");
        loom.write(0);
        check.same("a wrong program", Check.compile(loom, "def y = z;"), 2);
        check.same("its error", loom.errorAt(), 8);
        for (int what = 0; what < 3; what++) {
            check.same("count behind it " + what, loom.count(what), 0);
        }
        check.same("the paper stays", Check.paper(loom), "int");
        check.throwsThis("write behind it", IndexOutOfBoundsException.class, () -> loom.write(0));
        check.throwsThis("writeAt behind it", IndexOutOfBoundsException.class, () -> loom.writeAt(8));
        check.questionError(loom, 2, "@x");
        check.questionError(loom, 2, "@A");
        check.same("a program of form alone", Check.compile(loom, "def y = "), 1);
        check.same("its error", loom.errorAt(), 8);
        check.same("a good program", Check.compile(loom, "def z = true;"), 0);
        check.same("no error", loom.errorAt(), -1);
        check.same("its definitions", loom.count(2), 1);
        check.same("its types", loom.count(0), 0);
        check.same("its type", Check.written(loom, 0), "bool");
        check.same("the old name", Check.compile(loom, "type t = A; def x = z;"), 2);
    }
}
