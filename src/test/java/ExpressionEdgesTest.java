/** Each sentence on the type of an expression that names an edge: names, calls, operators, if, fun, let, case. */
public final class ExpressionEdgesTest {
    private static final String NAME = "name: that of the nearest let, fun or choice around that binds it (of a fun the last"
            + " one with this name), otherwise that of the definition (its own, or one ahead); what is general in it is"
            + " unknown anew; Error 2 (at the name): there is none (definitions behind are not known).";
    private static final String CALL = "e f: that of e and of f are found, then that of e has to fit that of f -> a new"
            + " unknown type, which is the type of the call; Error 5 at f.";
    private static final String SUM = "e + f, e - f, e * f: for e, then for f: its type is found, and has to fit int, Error 5"
            + " at it; int. e < f: likewise; bool.";
    private static final String EQUAL = "e = f: the types of e and of f are found, that of f has to fit that of e, Error 5 at"
            + " f; bool.";
    private static final String IF = "if e then f else g: that of e is found, and has to fit bool, Error 5 at e; those of f"
            + " and of g, that of g has to fit that of f, Error 5 at g; that of f.";
    private static final String FUN = "fun x .. -> e: each name has a new unknown type in e; a function from them, one after"
            + " the other, to that of e.";
    private static final String LET = "let x = e in f: that of e is found (x is not bound in it); Error 9 (at x) as above;"
            + " then that of f, with x, in which all is general that is unknown and stands in no type of a name that is bound"
            + " around the let by a fun or a choice (nor in that of the definition's own name).";
    private static final String CHOICE = "case e of ..: that of e is found; then for each choice: Error 2 (at the capital): it"
            + " is not known; Error 7 (at it): it stood in a choice of this case ahead; Error 6 (at it): more or fewer names"
            + " than the constructor has parts;";
    private static final String RESULT = "its result, with all marks unknown anew, has to fit that of e, Error 5 at it; then"
            + " its expression is found, where the names have the types of the parts (of one name twice the last one); it has"
            + " to fit that of the first choice, Error 5 at it.";

    public static void main(String[] args) {
        Check check = new Check("ExpressionEdgesTest");
        smallest(check);
        nearestName(check);
        whereNamesEnd(check);
        namesThatAreNot(check);
        capitals(check);
        brackets(check);
        calls(check);
        groups(check);
        sums(check);
        equal(check);
        conditions(check);
        functions(check);
        letNames(check);
        letParts(check);
        letGeneral(check);
        letNotGeneral(check);
        choiceErrors(check);
        numbersOfNames(check);
        choiceTypes(check);
        choiceNames(check);
        firstToken(check);
        check.end();
    }

    /** A definition x with this expression, behind types and definitions that tests use. */
    private static final String AHEAD = "type o 'a=N|S 'a;type q 'a 'b=Q 'a 'b|R 'b 'a int|E;def id=fun x->x;";

    private static void type(Check check, String expression, String due) {
        check.typeOfLast(AHEAD + "def x=" + expression + ";", due);
        check.answer(check.compiled(AHEAD), expression, due);
    }

    private static void error(Check check, int number, String marked) {
        check.programError(number, AHEAD + "def x=" + marked + ";");
        check.questionError(check.compiled(AHEAD), number, marked);
    }

    private static void smallest(Check check) {
        check.holds("number: int. true, false: bool.");
        type(check, "0", "int");
        type(check, "9999", "int");
        type(check, "true", "bool");
        type(check, "false", "bool");
    }

    private static void nearestName(Check check) {
        check.holds(NAME);
        type(check, "fun a->fun a->a+1", "'a -> int -> int");
        type(check, "fun a->let a=1 in a", "'a -> int");
        type(check, "let a=1 in fun a->a", "'a -> 'a");
        type(check, "let a=1 in let a=true in a", "bool");
        type(check, "let a=1 in let a=(a,a) in a", "int * int");
        type(check, "fun a->case S true of S a->a|N->false end", "'a -> bool");
        type(check, "case S true of S a->fun a->a+1|N->fun b->b end", "int -> int");
        type(check, "case S true of S a->let a=1 in a|N->2 end", "int");
        type(check, "fun a a->if a then 1 else 2", "'a -> bool -> int");
        type(check, "fun a b a b->(a,b)", "'a -> 'b -> 'c -> 'd -> 'c * 'd");
        type(check, "fun a a a->a", "'a -> 'b -> 'c -> 'c");
        type(check, "fun id->id 1", "(int -> 'a) -> 'a");
        type(check, "let id=1 in id", "int");
        type(check, "case S 1 of S id->id|N->0 end", "int");
        type(check, "(id 1,id true)", "int * bool");
        check.typeOfLast("def a=1;def x=fun x->(x,a);", "'a -> 'a * int");
        check.typeOfLast("def a=1;def x=let a=true in a;", "bool");
        check.typeOfLast("def fst=1;def x=fun fst->fst;", "'a -> 'a");
    }

    private static void whereNamesEnd(Check check) {
        check.holds(NAME);
        error(check, 2, "(fun a->a) @a");
        error(check, 2, "(let a=1 in a)+@a");
        error(check, 2, "case S 1 of S a->1|N->@a end");
        error(check, 2, "(case S 1 of S a->1 end)+@a");
        error(check, 2, "case (fun a->S a) 1 of S b->@a end");
        error(check, 2, "let a=@a in 1");
        error(check, 2, "let a=let b=1 in b in @b");
        error(check, 2, "if (let a=1 in true) then @a else 1");
        type(check, "fun a->((fun a->a+1) 2,if a then 1 else 2)", "bool -> int * int");
        type(check, "fun a->(let a=1 in a,if a then 1 else 2)", "bool -> int * int");
        type(check, "fun a->(case S 1 of S a->a|N->2 end,if a then 1 else 2)", "bool -> int * int");
        type(check, "fun a->case S 1 of S a->a|N->if a then 1 else 2 end", "bool -> int");
        type(check, "fun a->let b=let a=1 in a in if a then b else 2", "bool -> int");
    }

    private static void namesThatAreNot(Check check) {
        check.holds(NAME);
        error(check, 2, "@y");
        error(check, 2, "@int");
        error(check, 2, "@list");
        error(check, 2, "@o");
        error(check, 2, "@ids");
        check.programError(2, "def a=@b;def b=1;");
        check.programError(2, "def a=fun c->@b;def b=1;");
        check.compiled("def b=1;def a=b;");
        check.compiled("def a=a;");
        check.questionError(check.compiled("def a=1;"), 2, "(a,@b)");
    }

    private static void capitals(Check check) {
        check.holds("capital: that of the constructor, likewise; Error 2 (at it): it is not known.");
        type(check, "N", "o 'a");
        type(check, "S", "'a -> o 'a");
        type(check, "(S 1,S true)", "o int * o bool");
        type(check, "Q", "'a -> 'b -> q 'a 'b");
        type(check, "R", "'a -> 'b -> int -> q 'b 'a");
        type(check, "R 1", "'a -> int -> q 'a int");
        type(check, "(E,E)", "q 'a 'b * q 'c 'd");
        type(check, "(Nil,Cons)", "list 'a * ('b -> list 'b -> list 'b)");
        error(check, 2, "@M");
        error(check, 2, "S @Sn");
        check.programError(2, "def x=@A;type t=A;");
        check.compiled("type t=A;def x=A;");
    }

    private static void brackets(Check check) {
        check.holds("(e): that of e. (e, f): that of e * that of f.");
        type(check, "(1)", "int");
        type(check, "((id))", "'a -> 'a");
        type(check, "(1,true)", "int * bool");
        type(check, "((1,true),1)", "(int * bool) * int");
        type(check, "(1,(true,1))", "int * (bool * int)");
        type(check, "(id,id)", "('a -> 'a) * ('b -> 'b)");
        type(check, "fun a->(a,a)", "'a -> 'a * 'a");
        error(check, 2, "(@a,b)");
        error(check, 2, "(1,@b)");
        error(check, 5, "(@true+1,b)");
        error(check, 5, "(1 @2,b)");
    }

    private static void calls(Check check) {
        check.holds(CALL);
        type(check, "id 1", "int");
        type(check, "id id", "'a -> 'a");
        type(check, "fun f->f 1", "(int -> 'a) -> 'a");
        type(check, "fun f a->f a a", "('a -> 'a -> 'b) -> 'a -> 'b");
        type(check, "fun f->f (f 1)", "(int -> int) -> int");
        error(check, 5, "1 @1");
        error(check, 5, "true @id");
        error(check, 5, "id 1 @(2)");
        error(check, 5, "(1,2) @3");
        error(check, 5, "N @1");
        error(check, 5, "fst @1");
        error(check, 5, "fst (1,2) @3");
        error(check, 5, "fun f->f @f");
        error(check, 5, "fun f->f 1 @f");
        error(check, 5, "S 1 @1");
        error(check, 5, "Q 1 2 @3");
        error(check, 5, "R 1 2 @true");
        error(check, 5, "(fun f->f+1) @id");
        error(check, 2, "1 @a");
        error(check, 2, "@a 1");
        error(check, 2, "@a b");
        error(check, 5, "1 @true a");
        error(check, 5, "1 @((((2))))");
    }

    private static void groups(Check check) {
        check.holds("Operators of one level, and calls, group from the left.");
        type(check, "fun f a b->f a b", "('a -> 'b -> 'c) -> 'a -> 'b -> 'c");
        type(check, "fun f a b->f (a b)", "('a -> 'b) -> ('c -> 'a) -> 'c -> 'b");
        type(check, "fun f->f 1 2 3", "(int -> int -> int -> 'a) -> 'a");
        type(check, "id id 1", "int");
        error(check, 5, "id (id 1) @2");
        type(check, "1+2-3+4", "int");
        type(check, "1*2*3", "int");
        type(check, "1+2*3<4*5-6", "bool");
        type(check, "1+2=3*4", "bool");
        type(check, "fun f a->f a+f a*f a", "('a -> int) -> 'a -> int");
        type(check, "fun f a->f a<f a", "('a -> int) -> 'a -> bool");
        error(check, 5, "1+2*@true");
        error(check, 5, "1*2+@true");
        error(check, 5, "1-2-@true");
        error(check, 5, "(1-2<3)=@4");
    }

    private static void sums(Check check) {
        check.holds(SUM);
        for (String operator : new String[] {"+", "-", "*", "<"}) {
            String due = operator.equals("<") ? "bool" : "int";
            type(check, "1" + operator + "2", due);
            type(check, "fun a b->a" + operator + "b", "int -> int -> " + due);
            type(check, "fun a->a" + operator + "a", "int -> " + due);
            error(check, 5, "@true" + operator + "1");
            error(check, 5, "1" + operator + "@true");
            error(check, 5, "@id" + operator + "N");
            error(check, 5, "1 " + operator + " @(1,2)");
            error(check, 5, "1 " + operator + " @id id");
            error(check, 5, "@(1,2) " + operator + " 1");
            error(check, 5, "@true" + operator + "a");
            error(check, 2, "@a" + operator + "true");
            error(check, 2, "1" + operator + "@a");
            error(check, 5, "fun a->if a then 1 else (@a" + operator + "b)=(1=2)");
        }
        error(check, 5, "1+1+@true");
        error(check, 5, "1+@true+b");
        error(check, 5, "@true*1+b");
        error(check, 5, "1+1<@true");
        error(check, 5, "@N<a");
    }

    private static void equal(Check check) {
        check.holds(EQUAL);
        type(check, "1=2", "bool");
        type(check, "id=id", "bool");
        type(check, "fun a b->a=b", "'a -> 'a -> bool");
        type(check, "fun a->a=1", "int -> bool");
        type(check, "fun a->1=a", "int -> bool");
        type(check, "N=S 1", "bool");
        type(check, "(1=2)=(3<4)", "bool");
        error(check, 5, "1=@true");
        error(check, 5, "true=@1");
        error(check, 5, "1+1=@(1,1)");
        error(check, 5, "S 1=@S true");
        error(check, 5, "(1,true)=@(true,1)");
        error(check, 2, "true=@a");
        error(check, 2, "@a=true");
        error(check, 5, "1=@true*1");
        error(check, 5, "true=@1*1");
    }

    private static void conditions(Check check) {
        check.holds(IF);
        type(check, "if true then 1 else 2", "int");
        type(check, "fun a b c->if a then b else c", "bool -> 'a -> 'a -> 'a");
        type(check, "fun a->if a then a else a", "bool -> bool");
        type(check, "if true then N else S 1", "o int");
        type(check, "if true then id else fun a->a+1", "int -> int");
        error(check, 5, "if @1 then 2 else 3");
        error(check, 5, "if @1 then a else b");
        error(check, 5, "if @id 1 then 2 else 3");
        error(check, 2, "if @a then 1 else true");
        error(check, 2, "if true then @a else b");
        error(check, 2, "if true then 1 else @a");
        error(check, 5, "if true then 1 else @true");
        error(check, 5, "if true then true else @1+1");
        error(check, 5, "if true then 1 else @if true then true else false");
        error(check, 5, "if true then 1 else if true then true else @2");
        error(check, 5, "fun a->if a then @a+1 else b");
        error(check, 5, "fun a->if true then a else @(a,a)");
    }

    private static void functions(Check check) {
        check.holds(FUN);
        type(check, "fun a->a", "'a -> 'a");
        type(check, "fun a b->a", "'a -> 'b -> 'a");
        type(check, "fun a b->b", "'a -> 'b -> 'b");
        type(check, "fun a b c d e->d", "'a -> 'b -> 'c -> 'd -> 'e -> 'd");
        type(check, "fun a->fun b->fun c->a b c", "('a -> 'b -> 'c) -> 'a -> 'b -> 'c");
        type(check, "(fun a->a,fun a->a)", "('a -> 'a) * ('b -> 'b)");
        type(check, "(fun a->a+1,fun a->if a then a else a)", "(int -> int) * (bool -> bool)");
        error(check, 5, "fun a->(a+1,if @a then 1 else 2)");
        error(check, 5, "fun a->(a 1,a @true)");
        error(check, 2, "fun a b->@c");
    }

    private static void letNames(Check check) {
        check.holds(LET);
        type(check, "let a=1 in a", "int");
        type(check, "let a=1 in true", "bool");
        error(check, 2, "let a=@a in a");
        error(check, 2, "let a=fun b->@a in a");
        error(check, 2, "let a=1 in let b=@b in a");
        type(check, "fun a->let a=a+1 in a", "int -> int");
        error(check, 2, "let a=@b in 1+true");
        error(check, 5, "let a=1+@true in b");
        check.typeOfLast("def x=let y=1 in let z=(y,y) in (z,y);", "(int * int) * int");
        check.typeOfLast("def x=let x=1 in fun y->x;", "'a -> int");
    }

    private static void letParts(Check check) {
        check.holds(LET);
        String names = " b".repeat(59);
        type(check, "let a=fun" + names + "->1 in 1", "int");
        type(check, "let a=fun" + names + "->N in 1", "int");
        error(check, 9, "let @a=fun" + names + "->id in 1");
        error(check, 9, "let @a=fun" + names + " b->1 in 1");
        error(check, 9, "let @a=fun" + names + "->S N in 1");
        error(check, 9, "let @a=(fun" + names + "->1,1) in b");
        error(check, 2, "let a=(fun" + names + "->1,@b) in 1");
        error(check, 5, "let a=(fun" + names + "->1,1) @1 in 1");
        error(check, 9, "1+(let @a=fun" + names + " b->1 in true)");
        error(check, 9, "fun c->let d=c in let @a=fun" + names + " b->1 in c");
        type(check, "fst (1,fun" + names + " b b->1)", "int");
        type(check, "let a=fst (1,fun" + names + " b b->1) in a", "int");
        type(check, "let a=fun" + names + "->1 in fst (1,(a,(a,a)))", "int");
        type(check, "(fun a->1) (fun" + names + " b b->1)", "int");
        type(check, "case S (fun" + names + " b b->1) of S a->1 end", "int");
        error(check, 9, "case S (fun" + names + " b b->1) of S a->let @b=a in 1 end");
    }

    private static void letGeneral(Check check) {
        check.holds(LET);
        type(check, "let f=fun a->a in (f 1,f true)", "int * bool");
        type(check, "let f=fun a->a in f f 1", "int");
        type(check, "let n=N in (n=S 1,n=S true)", "bool * bool");
        type(check, "let n=Nil in (Cons 1 n,(Cons true n,n))", "list int * (list bool * list 'a)");
        type(check, "fun a->let f=fun b->(a,b) in (f 1,f true)", "'a -> ('a * int) * ('a * bool)");
        type(check, "fun a->let f=fun b->b in (f a,f 1)", "'a -> 'a * int");
        type(check, "case S 1 of S a->let f=fun b->(a,b) in (f 1,f true) end", "(int * int) * (int * bool)");
        type(check, "let f=fun a->let g=fun b->(a,b) in (g 1,g true) in (f 1,f true)",
                "((int * int) * (int * bool)) * ((bool * int) * (bool * bool))");
        type(check, "let f=let g=fun a->a in g in (f 1,f true)", "int * bool");
        type(check, "let a=fun b->b in let c=a in (c 1,c true)", "int * bool");
        type(check, "let f=fun a b->a in let g=f 1 in (g 1,g true)", "int * int");
        type(check, "(fun a->let f=fun b->b in (f 1,f true)) 1", "int * bool");
        // A name of a fun beside the let does not bind.
        type(check, "(fun a->a) (let f=fun a->a in (f 1,f true))", "int * bool");
        check.typeOfLast("def x=fun y->let f=fun z->z in if f true then f y else x (f y);", "'a -> 'a");
    }

    private static void letNotGeneral(Check check) {
        check.holds(LET);
        error(check, 5, "fun a->let b=a in (b 1,b @true)");
        error(check, 5, "fun a->let b=(a,1) in (fst b 1,fst b @true)");
        error(check, 5, "fun a->let f=fun b->a in (f 1 1,f 1 @true)");
        error(check, 5, "fun f a->let b=f a in (b+1,if @b then 1 else 2)");
        error(check, 5, "fun a->fun b->let c=a in (c 1,c @true)");
        error(check, 5, "fun a->let b=a in let c=b in (c 1,c @true)");
        error(check, 5, "fun a a->let b=a in (b 1,b @true)");
        error(check, 5, "fun a->let a=a in (a 1,a @true)");
        error(check, 5, "fun a->(fun b->let c=b in (c+1,if @c then 1 else 2)) 1");
        error(check, 5, "case S id of S a->let b=a in (b 1,b @true) end");
        error(check, 5, "case S id of S a->(a 1,a @true) end");
        error(check, 5, "case Q id id of Q a b->let c=b in (c 1,c @true) end");
        // Hidden names bind, too.
        error(check, 5, "fun a->let b=a in fun a->let c=b in (c 1,c @true)");
        error(check, 5, "case S id of S a->let b=a in fun a->let c=b in (c 1,c @true) end");
        error(check, 5, "fun a->let b=a in case S 1 of S a->let c=b in (c 1,c @true) end");
        error(check, 5, "fun a->let b=a in let a=1 in let c=b in (c 1,c @true)");
        error(check, 5, "fun a->(fun f->fun a->let c=f 1 in (c 1,c @true)) (fun d->a)");
        // What becomes known behind the let was not general in it.
        type(check, "fun a->let b=a in (a+1,b)", "int -> int * int");
        type(check, "fun a->let b=fun c->(a,c) in (a+1,(b 1,b true))", "int -> int * ((int * int) * (int * bool))");
        check.programError(5, "def x=fun y->let z=x in (z 1,z @true);");
        check.programError(5, "def x=fun y->let z=x y in (z+1,if @z then 1 else 2);");
        check.typeOfLast("def x=fun y->let z=fun w->x w in z y;", "'a -> 'b");
        check.programError(5, "def x=fun y->let z=fun w->x w in (z 1,z @true);");
    }

    private static void choiceErrors(Check check) {
        check.holds(CHOICE);
        error(check, 2, "case 1 of @M->1 end");
        error(check, 2, "case @a of M->1 end");
        error(check, 2, "case N of N->1|@M->1 end");
        error(check, 2, "case N of @M a b c->1 end");
        error(check, 7, "case N of N->1|@N->2 end");
        error(check, 7, "case N of N->1|S a->2|@N->3 end");
        error(check, 7, "case N of S a->1|N->2|@S a->3 end");
        error(check, 7, "case N of N->1|@N a->2 end");
        error(check, 7, "case N of N->1|@N->a end");
        error(check, 7, "case N of N->1|S a->1|@N->1|S a->1 end");
        error(check, 2, "case N of N->@a|N->1 end");
        error(check, 5, "case N of S a->a|N->@true+1|N->2 end");
        type(check, "case N of N->case N of N->1|S a->2 end|S a->case N of S a->3|N->4 end end", "int");
        type(check, "case (case N of N->N end) of N->1 end", "int");
        error(check, 7, "case N of N->case N of N->1 end|@N->2 end");
        error(check, 7, "case N of N->case N of S a->1|@S b->2 end end");
        error(check, 6, "case N of @N a->1 end");
        error(check, 6, "case 1 of @N a->1 end");
        error(check, 5, "case 1 of @N->1 end");
        error(check, 5, "case 1 of @N->a end");
        error(check, 6, "case N of N->1|@S->a end");
        type(check, "case S 1 of N->1 end", "int");
        type(check, "case E of E->1|R a b c->c|Q a b->2 end", "int");
    }

    /** Each constructor, with each number of names. */
    private static void numbersOfNames(Check check) {
        check.holds(CHOICE);
        String items = "type t 'a 'b 'c=A|B 'a|C 'a 'b|D 'a 'b 'c;";
        String[] capitals = {"Nil", "A", "B", "C", "Cons", "D"};
        int[] parts = {0, 0, 1, 2, 2, 3};
        for (int n = 0; n < capitals.length; n++) {
            String looked = n == 0 || n == 4 ? "Nil" : "A";
            for (int names = 0; names <= 5; names++) {
                String choice = capitals[n] + " y".repeat(names) + "->1 end";
                if (names == parts[n]) {
                    check.typeOfLast(items + "def x=case " + looked + " of " + choice + ";", "int");
                } else {
                    check.programError(6, items + "def x=case " + looked + " of @" + choice + ";");
                    check.programError(6, items + "def x=case 1 of @" + choice + ";");
                }
            }
        }
        check.typeOfLast("type t=A (int->int->int);def x=fun y->case y of A f->f 1 end;", "t -> int -> int");
        check.programError(6, "type t=A (int->int->int);def x=case 1 of @A f g->f 1 end;");
        check.programError(6, "type t=A (int->int->int);def x=case 1 of @A->1 end;");
    }

    private static void choiceTypes(Check check) {
        check.holds(RESULT);
        type(check, "fun a->case a of N->1 end", "o 'a -> int");
        type(check, "fun a->case a of S b->b end", "o 'a -> 'a");
        type(check, "fun a->case a of S b->b+1|N->2 end", "o int -> int");
        type(check, "fun a->case a of Q b c->(b,c)|R b c d->(c,b) end", "q 'a 'b -> 'a * 'b");
        type(check, "fun a->case a of R b c d->(d,(b,c)) end", "q 'a 'b -> int * ('b * 'a)");
        type(check, "fun a->case a of Cons b c->c|Nil->a end", "list 'a -> list 'a");
        type(check, "(case S 1 of S a->a end,case S true of S a->a end)", "int * bool");
        type(check, "fun a b->case a of S c->case b of S d->(c,d) end end", "o 'a -> o 'b -> 'a * 'b");
        error(check, 5, "case N of @Nil->1 end");
        error(check, 5, "case N of N->1|@Nil->2 end");
        error(check, 5, "case id of @N->1 end");
        error(check, 5, "fun a->case a of N->1|@Nil->2 end");
        error(check, 5, "fun a->case a of N->1|@Q b c->2 end");
        error(check, 5, "case N of N->1|S a->@true end");
        error(check, 5, "case N of N->1|S a->@(1,2) end");
        error(check, 5, "case N of S a->true|N->@1+1 end");
        error(check, 5, "case E of E->1|Q a b->2|R a b c->@true end");
        error(check, 5, "case E of E->1|Q a b->@true|R a b c->true end");
        error(check, 5, "case S 1 of S a->if @a then 1 else 2 end");
        error(check, 2, "case N of N->1|S a->@b end");
        error(check, 2, "case N of N->true|S a->1+@b end");
        error(check, 5, "fun a->case a of S b->b=@a|N->a end");
        error(check, 5, "fun a->case S a of S b->b|N->@(a,a) end");
    }

    private static void choiceNames(Check check) {
        check.holds(RESULT);
        type(check, "case Q 1 true of Q a a->a end", "bool");
        type(check, "case R 1 true 2 of R a a a->a end", "int");
        type(check, "case R 1 2 3 of R a b a->(a,b) end", "int * int");
        type(check, "fun x->case x of Cons a a->a end", "list 'a -> list 'a");
        type(check, "fun a->case S a of S b->(a,b) end", "'a -> 'a * 'a");
        type(check, "fun a->case S 1 of S a->a+1|N->a 1 end", "(int -> int) -> int");
        error(check, 5, "case Q 1 true of Q a a->@a+1 end");
        error(check, 2, "case Q 1 true of Q a b->1|E->@a end");
    }

    private static void firstToken(Check check) {
        check.holds("(Error 5 at an expression: at its first token.)");
        error(check, 5, "1+\n @(((true)))");
        error(check, 5, "1=@(let a=1 in true)");
        error(check, 5, "if @let a=1 in a then 1 else 2");
        error(check, 5, "if @fun a->a then 1 else 2");
        error(check, 5, "if @if true then 1 else 2 then 1 else 2");
        error(check, 5, "if @case N of N->1 end then 1 else 2");
        error(check, 5, "if @id 1 then 1 else 2");
        error(check, 5, "if @1*2 then 1 else 2");
        error(check, 5, "if @1+2*3 then 1 else 2");
        error(check, 5, "if true then 1 else @fun a->1");
        error(check, 5, "if true then 1 else @1=2");
        error(check, 5, "case N of N->1|S a->@id 1=2 end");
        error(check, 5, "1+@id id*2");
        error(check, 5, "@id id*2");
        error(check, 5, "@id id+2");
        error(check, 5, "@(id) id<2");
        error(check, 5, "1 @(true,2)");
    }
}
