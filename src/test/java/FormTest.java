/** Promises 4 and 5: error 1, for tokens, grammar, depth and the number of tokens. */
public final class FormTest {
    public static void main(String[] args) {
        Check check = new Check("FormTest");
        tokens(check);
        items(check);
        forms(check);
        expressions(check);
        endOfTape(check);
        depth(check);
        numberOfTokens(check);
        formGoesAheadOfMeaning(check);
        check.end();
    }

    private static void tokens(Check check) {
        check.holds("The longest possible token is always read.");
        check.compiled("def abcdefgh = 1;");
        check.programError(1, "def @abcdefghi = 1;");
        check.programError(1, "def a = 1 @abcdefghi;");
        check.compiled("type t = Abcdefgh;");
        check.compiled("type t = A1b2c3d4;");
        check.programError(1, "type t = @Abcdefghi;");
        check.compiled("def a = 9999;");
        check.programError(1, "def a = @10000;");
        check.compiled("def a1 = 1; def b = fun a1b->a1b a1;");
        check.typeOfLast("def b = fun ab -> fun x -> ab 12x;", "(int -> 'a -> 'b) -> 'a -> 'b");
        check.programError(2, "def a = @letx;");
        check.typeOfLast("def truex = 1; def a = truex;", "int");
        check.compiled("type t = A|B;");
        check.compiled("type z0 = Z | A09az | Zz; def az90 = 1; def za = 9009;");
        check.programError(1, "def a = @`a;");
        check.programError(1, "def a = @{;");
        check.programError(1, "def a = @[;");
        check.programError(1, "def a = @/;");
        check.programError(1, "type t 'a 'z @'{ = B;");
        check.programError(1, "type t 'a 'z @'` = B;");
        check.compiled("def\n\n a\n=\n1 ;\n\n");
        check.compiled("  def a=1;def b=a;");
        check.programError(1, "def a =@\t1;");
        check.programError(1, "def a =@\r\n1;");
        check.programError(1, "def a = 1@\u0000;");
        check.programError(1, "def a = 1@\u00e9;");
        check.programError(1, "def a = @#1;");
        check.programError(1, "def @_a = 1;");
        check.programError(1, "type t @'A = B;");
        check.programError(1, "type t @' a = B;");
        check.programError(1, "type t @'' = B;");
        check.programError(1, "type t 'a @'1 = B;");
        check.typeOfLast("def f : 'a->'b->'a = fun x y->x;", "'a -> 'b -> 'a");
        check.typeOfLast("def f = fun x->x-1;", "int -> int");
        check.programError(1, "def f = fun x -> x@->1;");
        check.programError(1, "def f = fun x @- > x;");
        check.programError(1, "def f = 1 @> 2;");
        check.programError(1, "@Type t = A;");
        check.programError(1, "def a@B;");
    }

    private static void items(Check check) {
        check.holds("Error 1: the first token with which the tokens so far are not the beginning of a program (of"
                + " ask: of an expression).");
        check.programError(1, "@1");
        check.programError(1, "@x = 1;");
        check.programError(1, "def @def = 1;");
        check.programError(1, "def @Abc = 1;");
        check.programError(1, "def x = @= 1;");
        check.programError(1, "def x @1;");
        check.programError(1, "def x = @;");
        check.programError(1, "def x = 1 @def y = 2;");
        check.programError(1, "def x = 1;@;");
        check.programError(1, "def x = 1; @y = 1;");
        check.programError(1, "type @T = A;");
        check.programError(1, "type @'a t = A;");
        check.programError(1, "type t @A;");
        check.programError(1, "type t = @a;");
        check.programError(1, "type t = @;");
        check.programError(1, "type t = A | @;");
        check.programError(1, "type t = A | B | C@");
        check.programError(1, "type t = A @B;");
        check.programError(1, "type t = A 'a @-> int;");
        check.programError(1, "type t = A int @* int;");
        check.programError(1, "type t = A (int * int@;");
        check.programError(1, "type t = A (@);");
        check.programError(1, "type t = A @1;");
        check.programError(1, "type t = A @true;");
        check.programError(1, "type t @x = A;");
        check.compiled("type t = A (int -> int) | B (list (list t)) | C t;");
    }

    private static void forms(Check check) {
        check.holds("Error 1: the first token with which the tokens so far are not the beginning of a program (of"
                + " ask: of an expression).");
        check.compiled("def x : int = 1;");
        check.compiled("def x : (int) = 1;");
        check.compiled("def x : int * int = (1, 1);");
        check.programError(1, "def x : int * int @* int = 1;");
        check.compiled("def x : int * (int * int) = (1, (1, 1));");
        check.compiled("def x : int * int -> int * int = fun y -> y;");
        check.programError(8, "def x : @'a = 1;");
        check.programError(1, "def x : 'a @'b = 1;");
        check.programError(1, "def x : 'a @int = 1;");
        check.programError(1, "def x : (int) @int = 1;");
        check.programError(1, "def x : @= 1;");
        check.programError(1, "def x : int -> @= 1;");
        check.programError(1, "def x : int * @= 1;");
        check.programError(1, "def x : int -> @-> int = 1;");
        check.programError(1, "def x : @Nil = 1;");
        check.programError(1, "def x : @1 = 1;");
        check.programError(1, "def x : int@; = 1;");
        check.programError(1, "def x : (int@, int) = 1;");
        check.programError(1, "def x @, = 1;");
        check.compiled("def x : list int -> list (list int) -> int = fun a b -> 1;");
    }

    private static void expressions(Check check) {
        check.holds("Error 1: the first token with which the tokens so far are not the beginning of a program (of"
                + " ask: of an expression).");
        check.programError(1, "def x = let @1 = 2 in 3;");
        check.programError(1, "def x = let y @2 in 3;");
        check.programError(1, "def x = let y = 2 @;");
        check.programError(1, "def x = let y = 2 in @;");
        check.programError(1, "def x = let @F = 2 in 3;");
        check.programError(1, "def x = let y @z = 2 in 3;");
        check.programError(1, "def x = fun @-> 1;");
        check.programError(1, "def x = fun y @1;");
        check.programError(1, "def x = fun y @Z -> 1;");
        check.programError(1, "def x = fun y -> @;");
        check.programError(1, "def x = if @then 1 else 2;");
        check.programError(1, "def x = if true @else 2;");
        check.programError(1, "def x = if true then 1@;");
        check.programError(1, "def x = if true then 1 else @;");
        check.programError(1, "def x = case 1 @end;");
        check.programError(1, "def x = case 1 of @end;");
        check.programError(1, "def x = case 1 of @x -> 1 end;");
        check.programError(1, "def x = case 1 of @1 -> 1 end;");
        check.programError(1, "def x = case Nil of Nil @1 end;");
        check.programError(1, "def x = case Nil of Nil -> 1 @;");
        check.programError(1, "def x = case Nil of Nil -> 1 | @end;");
        check.programError(1, "def x = case Nil of Cons @1 2 -> 1 end;");
        check.programError(1, "def x = case Nil of Cons x @Nil -> 1 end;");
        check.programError(1, "def x = 1 = 2 @= 3;");
        check.programError(1, "def x = 1 < 2 @< 3;");
        check.programError(1, "def x = 1 < 2 @= 3;");
        check.compiled("def x = (1 < 2) = (3 < 4);");
        check.programError(1, "def x = 1 + @;");
        check.programError(1, "def x = 1 + @+ 2;");
        check.programError(1, "def x = @- 2;");
        check.programError(1, "def x = 1 * @fun y -> y;");
        check.programError(1, "def x = 1 + @let y = 1 in y;");
        check.programError(1, "def x = 1 @let y = 1 in y;");
        check.programError(1, "def x = 1 = @if true then 1 else 2;");
        check.programError(1, "def x = 1 < @case Nil of Nil -> 1 end;");
        check.programError(1, "def x = (@);");
        check.programError(1, "def x = (1@;");
        check.programError(1, "def x = (1, @);");
        check.programError(1, "def x = (1, 2@, 3);");
        check.programError(1, "def x = 1@);");
        check.programError(1, "def x = 1 @, 2;");
        check.programError(1, "def x = 1 @: int;");
        check.programError(1, "def x = 1 @of 2;");
        check.programError(1, "def x = 1 @'a;");
        check.programError(1, "def x = @'a;");
        check.compiled("def x = (let y = 1 in y) + (fun z -> z) 2 * (if true then 1 else 2);");
        check.compiled("def f = fun x -> let y = x in fun z -> if z then y else case y of Nil -> y end;");
    }

    private static void endOfTape(Check check) {
        check.holds("This includes a byte with which no token begins, a word, capital or number that is too long,"
                + " the end of the tape (at its length), the first token of an expression or form whose depth would"
                + " be 13, and the token that would be the 301st.");
        check.programError(1, "@");
        check.programError(1, "   @");
        check.programError(1, "\n@");
        check.programError(1, "def@");
        check.programError(1, "def x@");
        check.programError(1, "def x = 1@");
        check.programError(1, "def x = 1  \n @");
        check.programError(1, "def x = (1 @");
        check.programError(1, "type t = A@");
        check.programError(1, "def x = 1; def @");
        check.compiled("def x = 1;   ");
    }

    private static void depth(Check check) {
        check.holds("It may be at most 12.");
        check.compiled("def x = " + nested("(", "1", ")", 12) + ";");
        check.programError(1, "def x = " + "(".repeat(13) + "@1" + ")".repeat(13) + ";");
        check.programError(1, "def x = " + "(".repeat(13) + "@");
        check.programError(1, "def x = " + "(".repeat(13) + "@((((1");
        check.compiled("def x : " + nested("(", "int", ")", 12) + " = 1;");
        check.programError(1, "def x : " + "(".repeat(13) + "@int" + ")".repeat(13) + " = 1;");
        check.compiled("type t = A " + nested("(", "int", ")", 12) + ";");
        check.programError(1, "type t = A " + "(".repeat(13) + "@int" + ")".repeat(13) + ";");
        check.compiled("def x : " + "int -> ".repeat(20) + "int = fun" + " x".repeat(20) + " -> 1;");
        check.programError(1, "def x = " + "fun x -> ".repeat(13) + "@x;");
        check.compiled("def x = " + "fun x -> ".repeat(12) + "x;");
        check.programError(1, "def x = " + "let x = ".repeat(13) + "@1;");
        check.programError(1, "def x = " + "let x = 1 in ".repeat(12) + "let x = @1 in x;");
        check.compiled("def x = " + "let x = 1 in ".repeat(12) + "x;");
        check.programError(1, "def x = " + "if ".repeat(13) + "@true;");
        check.programError(1, "def x = " + "fun x -> ".repeat(12) + "if @x then x else x;");
        check.programError(1, "def x = " + "if true then 1 else ".repeat(12) + "(@1);");
        check.programError(1, "def x = " + "fun y -> ".repeat(11) + "if true then (@y) else y;");
        check.programError(1, "def x = " + "fun y -> ".repeat(11) + "if (@true) then y else y;");
        check.programError(1, "def x = " + "fun y -> ".repeat(11) + "let z = (@y) in y;");
        check.programError(1, "def x = " + "fun y -> ".repeat(11) + "let z = y in (@y);");
        check.programError(1, "def x = " + "fun y -> ".repeat(11) + "case (@y) of Nil -> y end;");
        check.programError(1, "def x = " + "fun y -> ".repeat(11) + "case y of Nil -> (@y) end;");
        check.programError(1, "def x = " + "fun y -> ".repeat(11) + "case y of Nil -> y | Cons a b -> (@y) end;");
        check.compiled("def x = " + "fun y -> ".repeat(11) + "case y of Nil -> y | Cons a b -> y end;");
        check.compiled("def x = " + "if true then 1 else ".repeat(12) + "1;");
        check.programError(1, "def x = " + "case ".repeat(13) + "@1;");
        check.programError(1, "def x = " + "case Nil of Nil -> ".repeat(12) + "case @Nil of Nil -> 1;");
        check.compiled("def x = " + "case Nil of Nil -> ".repeat(12) + "1" + " end".repeat(12) + ";");
        check.programError(1, "def x = " + "(".repeat(12) + "(@1, 2)" + ")".repeat(12) + ";");
        check.programError(1, "def x = " + "(".repeat(11) + "(1, (@2))" + ")".repeat(11) + ";");
        check.compiled("def x = " + nested("(", "1 + 2 * 3", ")", 12) + " + " + nested("(", "1", ")", 12) + ";");
        check.compiled("def x = " + nested("(", "1", ")", 12) + "; def y = " + nested("(", "1", ")", 12) + ";");
    }

    private static String nested(String open, String inner, String close, int times) {
        return open.repeat(times) + inner + close.repeat(times);
    }

    private static void numberOfTokens(Check check) {
        check.holds("A program has at most 300 tokens.");
        String odd = "def x = 1" + "+1".repeat(147) + ";";
        check.compiled(odd);
        check.programError(1, odd + "def@");
        check.programError(1, odd + "def @x");
        check.programError(1, odd + "def @#");
        check.programError(1, odd + "@=");
        check.programError(1, "def x = 1" + "+1".repeat(148) + "@;");
        check.compiled("def x = fst (1,2)" + "+1".repeat(145) + ";");
        check.compiled("def x = fst (1,2)" + "+1".repeat(145) + ";  \n");
        check.programError(1, "def x = fst (1,2)" + "+1".repeat(145) + "+@1;");
        TypeLoom loom = new TypeLoom();
        check.answer(loom, "fst (1,2)" + "+1".repeat(147), "int");
        check.questionError(loom, 1, "1" + "+1".repeat(149) + "+@1");
    }

    private static void formGoesAheadOfMeaning(Check check) {
        check.holds("Only if there is no error of form, the meaning is looked at, item by item, in each in the order"
                + " told below: the first error is told (of two at one place that which is told first here; a part"
                + " too many ahead of what is in it).");
        check.programError(1, "def x = y; def z = @;");
        check.programError(1, "type int = A; def x = 1@");
        check.programError(2, "def x = @y; def x = z;");
    }
}
