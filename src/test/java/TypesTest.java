/** Promises 4 and 7: the types that are found. */
public final class TypesTest {
    public static void main(String[] args) {
        Check check = new Check("TypesTest");
        simpleExpressions(check);
        groups(check);
        names(check);
        general(check);
        recursion(check);
        choices(check);
        forms(check);
        constructors(check);
        check.end();
    }

    private static void simpleExpressions(Check check) {
        check.holds("The type of an expression is found so, part by part; parts stand in this order:");
        check.typeOfLast("def x = 0;", "int");
        check.typeOfLast("def x = true;", "bool");
        check.typeOfLast("def x = false;", "bool");
        check.typeOfLast("def x = (1);", "int");
        check.typeOfLast("def x = (1, true);", "int * bool");
        check.typeOfLast("def x = 1 + 2 - 3 * 4;", "int");
        check.typeOfLast("def x = 1 < 2;", "bool");
        check.typeOfLast("def x = true = false;", "bool");
        check.typeOfLast("def x = if true then 1 else 2;", "int");
        check.typeOfLast("def x = let y = 1 in (y, y);", "int * int");
        check.typeOfLast("def x = fun y -> y + 1;", "int -> int");
        check.typeOfLast("def x = fun y z -> if y = z then y else 1;", "int -> int -> int");
        check.typeOfLast("def x = Nil;", "list 'a");
        check.typeOfLast("def x = Cons;", "'a -> list 'a -> list 'a");
        check.typeOfLast("def x = Cons 1 Nil;", "list int");
        check.typeOfLast("def x = Cons 1;", "list int -> list int");
        check.typeOfLast("def x = fst;", "'a * 'b -> 'a");
        check.typeOfLast("def x = snd;", "'a * 'b -> 'b");
        check.typeOfLast("def x = snd (1, true);", "bool");
    }

    private static void groups(Check check) {
        check.holds("Operators of one level, and calls, group from the left.");
        check.typeOfLast("def x = fun f y -> f y 1 true;", "('a -> int -> bool -> 'b) -> 'a -> 'b");
        check.typeOfLast("def x = fun f y -> f (y 1) = 1;", "('a -> int) -> (int -> 'a) -> bool");
        check.typeOfLast("def x = fun f -> f 1 * f 2 + f 3 < f 4;", "(int -> int) -> bool");
        check.typeOfLast("def x = fun f y -> f y + 1 = f y * 2;", "('a -> int) -> 'a -> bool");
        check.typeOfLast("def x = fun y -> let z = y in z + 1;", "int -> int");
        check.typeOfLast("def x = fun a -> fun b -> if a then b else b + 1;", "bool -> int -> int");
        check.typeOfLast("def x = (fun a -> a, 1);", "('a -> 'a) * int");
    }

    private static void names(Check check) {
        check.holds("name: that of the nearest let, fun or choice around that binds it (of a fun the last one with"
                + " this name), otherwise that of the definition (its own, or one ahead); what is general in it is"
                + " unknown anew; Error 2 (at the name): there is none (definitions behind are not known).");
        check.typeOfLast("def x = fun x -> (x, 1);", "'a -> 'a * int");
        check.typeOfLast("def x = fun a a -> if a then 1 else 2;", "'a -> bool -> int");
        check.typeOfLast("def x = fun a -> (fun a -> a + 1) (if a then 1 else 2);", "bool -> int");
        check.typeOfLast("def x = fun a -> let a = (a, 1) in a;", "'a -> 'a * int");
        check.typeOfLast("def x = fun a -> (let a = 1 in a, if a then 1 else 2);", "bool -> int * int");
        check.typeOfLast("def y = 1; def x = fun y -> y;", "'a -> 'a");
        check.typeOfLast("def y = true; def x = let y = 1 in y;", "int");
        check.typeOfLast("def x = fun l -> case l of Cons a a -> a | Nil -> Nil end;", "list 'a -> list 'a");
        check.typeOfLast("def x = fst (1, true); def fst = true; def y = fst;", "bool");
        check.programError(5, "def fst = @fun p -> fst;");
        check.typeOfLast("def snd = fun x -> x; def y = snd 1;", "int");
        check.typeOfLast("def x = fun fst -> fst 1;", "(int -> 'a) -> 'a");
        check.typeOfLast("def list = 1; def x : list int = Nil;", "list int");
    }

    private static void general(Check check) {
        check.holds("then that of f, with x, in which all is general that is unknown and stands in no type of a name"
                + " that is bound around the let by a fun or a choice (nor in that of the definition's own name).");
        check.typeOfLast("def id = fun x -> x; def x = (id 1, id true);", "int * bool");
        check.typeOfLast("def id = fun x -> x; def x = id id;", "'a -> 'a");
        check.typeOfLast("def x = let id = fun y -> y in (id 1, id true);", "int * bool");
        check.typeOfLast("def x = fun y -> let z = y in (z, z);", "'a -> 'a * 'a");
        check.typeOfLast("def x = fun y -> let f = fun z -> (y, z) in (f 1, f true);", "'a -> ('a * int) * ('a * bool)");
        check.typeOfLast("def x = fun y -> let z = Nil in (Cons y z, Cons 1 z);", "'a -> list 'a * list int");
        check.typeOfLast("def x = fun f -> let g = fun y -> f y in (g, g);", "('a -> 'b) -> ('a -> 'b) * ('a -> 'b)");
        check.typeOfLast("def x = fun l -> case l of Cons h t -> let k = h in (k, k + 1) | Nil -> (1, 2) end;",
                "list int -> int * int");
        check.typeOfLast("def x = fun y -> (fun y -> let g = fun z -> z in g) y;", "'a -> 'b -> 'b");
        check.programError(5, "def x = fun y -> let y = y in (y 1, y @true);");
        check.programError(5, "def x = fun y -> let z = y in fun y -> (z + 1, if @z then 1 else 2);");
        check.programError(5, "def x = fun y -> let z = fun y -> y in let w = y in (w + 1, if @w then 1 else 2);");
        check.programError(5, "def x = fun y -> let z = y in fun y -> let w = z in (w + 1, if @w then 1 else 2);");
        check.programError(5, "def x = case Cons (fun z -> z) Nil of Cons f t -> (f 1, f @true) end;");
        check.programError(5, "def x = fun f -> (fun y -> let g = f y in (g + 1, if @g then 1 else 2)) 1;");
        check.typeOfLast("def x = Nil; def y = (Cons 1 x, Cons true x);", "list int * list bool");
    }

    private static void recursion(Check check) {
        check.holds("Then the type of its expression is found, where its own name has an unknown type, the same one"
                + " in all of it; Error 5 (at the first token of the expression): both do not fit.");
        check.typeOfLast("def f = fun x -> if x < 1 then 0 else f (x - 1);", "int -> int");
        check.typeOfLast("def len = fun l -> case l of Nil -> 0 | Cons h t -> 1 + len t end;", "list 'a -> int");
        check.typeOfLast("def map = fun f l -> case l of Nil -> Nil | Cons h t -> Cons (f h) (map f t) end;",
                "('a -> 'b) -> list 'a -> list 'b");
        check.typeOfLast("def f = fun x -> let g = fun y -> f y in g x;", "'a -> 'b");
        check.programError(5, "def f = @fun x -> let g = fun y -> f y in g;");
        check.programError(5, "def f = fun x -> if true then f 1 else f @true;");
        check.typeOfLast("def f = fun x -> f 1;", "int -> 'a");
    }

    private static void choices(Check check) {
        check.holds("its result, with all marks unknown anew, has to fit that of e, Error 5 at it; then its"
                + " expression is found, where the names have the types of the parts (of one name twice the last"
                + " one); it has to fit that of the first choice, Error 5 at it.");
        check.typeOfLast("type o 'a = N | S 'a; def f = fun x -> case x of S y -> y | N -> 0 end;", "o int -> int");
        check.typeOfLast("type o 'a = N | S 'a; def f = fun x -> case x of S y -> y end;", "o 'a -> 'a");
        check.typeOfLast("type e 'a 'b = L 'a | R 'b; def f = fun x -> case x of L y -> R y | R y -> L y end;",
                "e 'a 'b -> e 'b 'a");
        check.typeOfLast("type b = B; def f = fun x -> case x of B -> 1 end;", "b -> int");
        check.typeOfLast("def f = fun l -> case l of Cons x r -> case r of Cons y s -> (x, y) end end;",
                "list 'a -> 'a * 'a");
        check.typeOfLast("type f 'a = F ('a -> 'a); def g = fun x y -> case x of F h -> h y end;", "f 'a -> 'a -> 'a");
        check.typeOfLast("type t 'a 'b 'c = A 'c 'b 'a; def f = fun x -> case x of A p q r -> (p, (q, r)) end;",
                "t 'a 'b 'c -> 'c * ('b * 'a)");
    }

    private static void forms(Check check) {
        check.holds("The type of the definition is the form, if it has one, otherwise that which was found; what is"
                + " unknown in it is general: it can be another type wherever the name is used behind it.");
        check.typeOfLast("def x : int = 1;", "int");
        check.typeOfLast("def f : 'q -> 'p -> 'q = fun x y -> x;", "'a -> 'b -> 'a");
        check.typeOfLast("def f : int -> int = fun x -> x; def y = f;", "int -> int");
        check.typeOfLast("def f : 'z -> 'z = fun x -> x; def y = (f 1, f true);", "int * bool");
        check.typeOfLast("def f : list int -> int = fun x -> 1; def y = f;", "list int -> int");
        check.typeOfLast("def f : ('a -> 'b) -> 'a -> 'b = fun g x -> g x; def y = f fst;", "'a * 'b -> 'a");
        check.typeOfLast("def f : int * bool -> (int * bool) = fun x -> x;", "int * bool -> int * bool");
        check.programError(5, "def f : int -> int = fun x -> x; def y = f @true;");
        check.programError(5, "def f : 'a -> int = fun x -> (fun y -> 1) (f 1, f @true);");
    }

    private static void constructors(Check check) {
        check.holds("The constructor has the type of a function from its parts, one after the other, to the name"
                + " with its marks.");
        String types = "type t 'a 'b = A 'a (t 'b 'a) | B; type u = C (t int bool) u | D;";
        check.typeOfLast(types + "def x = A;", "'a -> t 'b 'a -> t 'a 'b");
        check.typeOfLast(types + "def x = A 1 B;", "t int 'a");
        check.typeOfLast(types + "def x = C (A 1 (A true B)) D;", "u");
        check.programError(5, types + "def x = A 1 @(A true (A true B));");
        check.typeOfLast(types + "def x = C B;", "u -> u");
        check.typeOfLast("type f = F (int -> bool) | G (int * (bool * f)); def x = (F (fun y -> y < 1), G);",
                "f * (int * (bool * f) -> f)");
    }
}
