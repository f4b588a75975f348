/** Each sentence on definitions that names an edge: their number, names, forms, what fits, 120 parts. */
public final class DefinitionEdgesTest {
    private static final String NUMBER = "A definition: Error 4 (at def): a 25th one. Error 3 (at the name): a definition"
            + " ahead has it.";
    private static final String OWN = "Then the type of its expression is found, where its own name has an unknown type, the"
            + " same one in all of it; Error 5 (at the first token of the expression): both do not fit.";
    private static final String FORM = "Error 8 (at the first token of the form): the type that was found does not fit the"
            + " form, if each mark in it is a type of its own that fits nothing else.";
    private static final String PARTS = "Error 9 (at the name): the type has more than 120 parts (int, bool, marks, what is"
            + " unknown, names, *, ->, each as often as it stands there).";
    private static final String TYPE = "The type of the definition is the form, if it has one, otherwise that which was"
            + " found; what is unknown in it is general: it can be another type wherever the name is used behind it.";
    private static final String FIT = "Two types fit, if what is unknown in them can be made known, so that both are the"
            + " same; it is known then in all that was found so far; an unknown type does not fit a type in which it stands"
            + " itself (but itself).";

    public static void main(String[] args) {
        Check check = new Check("DefinitionEdgesTest");
        numberOfDefinitions(check);
        namesOfDefinitions(check);
        ownName(check);
        formsThatFit(check);
        formsThatDoNot(check);
        formsAndOwnNames(check);
        partsOfForms(check);
        partsOfWhatWasFound(check);
        placeOfTooManyParts(check);
        typeOfTheDefinition(check);
        generalBehind(check);
        fitting(check);
        itself(check);
        knownInAll(check);
        orderInADefinition(check);
        check.end();
    }

    private static String definitions(int many) {
        StringBuilder text = new StringBuilder();
        for (int n = 0; n < many; n++) {
            text.append("def d").append(n).append("=").append(n).append(';');
        }
        return text.toString();
    }

    private static void numberOfDefinitions(Check check) {
        check.holds(NUMBER);
        for (int many = 1; many <= 24; many++) {
            TypeLoom loom = check.compiled(definitions(many));
            check.same("definitions", loom.count(2), many);
            check.same("the last one", loom.write(many - 1), 3);
            check.noSuch("one behind it", () -> loom.write(loom.count(2)));
        }
        check.programError(4, definitions(24) + "@def x=1;");
        check.programError(4, definitions(24) + "\n @def x=1;def y=1;");
        check.programError(4, definitions(24) + "type t=A;@def x=1;");
        check.programError(4, definitions(24) + "@def d0=1;");
        check.programError(4, definitions(24) + "@def x:nope=y;");
        check.programError(2, definitions(23) + "def x=@y;def z=1;");
        check.same("with types", check.compiled(definitions(12) + "type t=A;" + "def x=A;def y=A;").count(2), 14);
    }

    private static void namesOfDefinitions(Check check) {
        check.holds(NUMBER);
        check.programError(3, "def x=1;def @x=1;");
        check.programError(3, "def x=1;def y=1;def @x=y;");
        check.programError(3, "def x=1;def y=1;def @y:nope=z;");
        check.programError(3, definitions(23) + "def @d0=1;");
        check.programError(3, definitions(23) + "def @d22=1;");
        check.programError(3, "def abcdefgh=1;def abcdefgi=1;def @abcdefgi=1;");
        check.compiled("def abcdefgh=1;def abcdefgi=1;def abcdefg=1;");
        check.compiled("type x=X;def x=1;");
        check.compiled("def int=1;def bool=1;def list=1;def fst=1;def snd=1;");
    }

    private static void ownName(Check check) {
        check.holds(OWN);
        check.typeOfLast("def x=x;", "'a");
        check.typeOfLast("def x=(x);", "'a");
        check.programError(5, "def x=@(x,1);");
        check.programError(5, "def x=\n @fun y->x;");
        check.programError(5, "def x= @Cons x Nil;");
        check.programError(5, "def x=@let y=1 in (y,x);");
        check.programError(5, "def x=@(((fun y->x)));");
        check.programError(5, "def f=@fun x->f x x;");
        check.programError(5, "def f=@f 1;");
        check.programError(5, "def f=@f+1=2;");
        check.typeOfLast("def f=f+1;", "int");
        check.typeOfLast("def f=if f then f else f;", "bool");
        check.programError(5, "def f=(f+1,if @f then 1 else 2);");
        check.programError(5, "def f=fun x->(f 1,f @true);");
        check.typeOfLast("def f=fun x->if x=1 then f 2 else f 3;", "int -> 'a");
        check.typeOfLast("def f=fun x y->f y x;", "'a -> 'a -> 'b");
        check.programError(5, "def f=fun x->let g=f in (g 1,g @true);");
        check.typeOfLast("def f=fun f->(f 1,f 2);", "(int -> 'a) -> 'a * 'a");
        check.typeOfLast("def f=let f=fun x->x in (f 1,f true);", "int * bool");
    }

    private static void formsThatFit(Check check) {
        check.holds(FORM);
        check.typeOfLast("def x:'a=x;", "'a");
        check.typeOfLast("def x:int=1;", "int");
        check.typeOfLast("def x:int->int=fun y->y;", "int -> int");
        check.typeOfLast("def x:'a->'a=fun y->y;", "'a -> 'a");
        check.typeOfLast("def x:'b->'a->'b=fun y z->y;", "'a -> 'b -> 'a");
        check.typeOfLast("def x:'a->'a->'a=fun y z->y;", "'a -> 'a -> 'a");
        check.typeOfLast("def x:list 'a->list 'a=fun y->y;", "list 'a -> list 'a");
        check.typeOfLast("def x:('a->'a)*('b->'b)=(fun y->y,fun y->y);", "('a -> 'a) * ('b -> 'b)");
        check.typeOfLast("def x:('a->'a)*('a->'a)=(fun y->y,fun y->y);", "('a -> 'a) * ('a -> 'a)");
        check.typeOfLast("def x:list (list 'q)=Nil;", "list (list 'a)");
    }

    private static void formsThatDoNot(Check check) {
        check.holds(FORM);
        check.programError(8, "def x:@'a=1;");
        check.programError(8, "def x: @'a ->'b=fun y->y;");
        check.programError(8, "def x:@'a->'a=fun y->y+1;");
        check.programError(8, "def x:@'a->int=fun y->y;");
        check.programError(8, "def x:@int->'a=fun y->y;");
        check.programError(8, "def x:@('a)=true;");
        check.programError(8, "def x:@((int))=true;");
        check.programError(8, "def x:@list 'a=Cons 1 Nil;");
        check.programError(8, "def x:@list int=fst;");
        check.programError(8, "def x:@int*int=(1,true);");
        check.programError(8, "def x:@int*int=fun y->y;");
        check.programError(8, "def x:@'a->'b->'c*'d=fun y z->(z,y);");
        check.typeOfLast("def x:'a->'b->'b*'a=fun y z->(z,y);", "'a -> 'b -> 'b * 'a");
        check.programError(8, "def x:@'a->list 'a=fun y->y;");
        check.programError(8, "def x:@'a->'a=fun y->(y,y);");
        check.programError(8, "type t 'a=A 'a;def x:@t 'a=A 1;");
        check.programError(8, "type t=A;type u=B;def x:@t=B;");
    }

    /** In its expression the own name has what is found, not the form. */
    private static void formsAndOwnNames(Check check) {
        check.holds(OWN);
        check.programError(5, "def f:'a->'a=fun x->(fun y->x)(f 1,f @true);");
        check.programError(8, "def f:@int->int=fun x->f x+f true;");
        check.programError(5, "def f:int->int=@fun x->f true+x;");
        check.programError(5, "def f:int=@fun x->f;");
        check.holds(FORM);
        check.programError(8, "def f:@'a->'b->'a=fun x y->f y x;");
        check.typeOfLast("def f:'a->'a->'b=fun x y->f y x;", "'a -> 'a -> 'b");
        check.programError(8, "def f:@'a->'a=fun x->f 1;");
        check.typeOfLast("def f:int->'a=fun x->f 1;", "int -> 'a");
    }

    private static final String TYPES = "type u=U;type o 'a=O 'a;type p 'a 'b=P;type q 'a 'b 'c=Q;";

    /** Behind n arrows each kind of part counts as often as it stands there. */
    private static void partsOfForms(Check check) {
        check.holds(PARTS);
        String[] ends = {"int", "bool", "'a", "u", "list int", "o 'a", "list (o u)", "p int 'a", "q 'a u int", "int*bool",
            "'a*'a", "(int->int)*u", "list (int->'a)", "list (list (list (list int)))", "q (p int int) (o u) ('a->'a)"};
        int[] parts = {1, 1, 1, 1, 2, 2, 3, 3, 4, 3, 3, 5, 4, 5, 9};
        for (int n = 0; n < ends.length; n++) {
            int arrows = (120 - parts[n]) / 2;
            String right = "int->".repeat(arrows) + ends[n];
            TypeLoom loom = check.compiled(TYPES + "def x:" + right + "=x;");
            check.same("parts with " + ends[n], loom.measure(0, 0), 2 * arrows + parts[n]);
            check.programError(9, TYPES + "def @x:int->" + right + "=x;");
            String twice = "list (" + right + ")";
            if (2 * arrows + parts[n] == 119) {
                check.same("parts", check.compiled(TYPES + "def x:" + twice + "=x;").measure(0, 0), 120);
                check.programError(9, TYPES + "def @x:list (" + twice + ")=x;");
            } else {
                check.programError(9, TYPES + "def @x:" + twice + "=x;");
            }
        }
    }

    private static void partsOfWhatWasFound(Check check) {
        check.holds(PARTS);
        String names = " y".repeat(59);
        check.same("parts", check.compiled("def x=fun" + names + "->1;").measure(0, 0), 119);
        check.same("parts", check.compiled("def x=fun" + names + "->y;").measure(0, 0), 119);
        check.same("parts", check.compiled("def x=fun" + names + "->Nil;").measure(0, 0), 120);
        check.same("parts", check.compiled("def x=Cons (fun" + names + "->1) Nil;").measure(0, 0), 120);
        check.programError(9, "def @x=fun" + names + " y->1;");
        check.programError(9, "def @x=fun" + names + "->(1,2);");
        check.programError(9, "def @x=fun" + names + "->Cons Nil Nil;");
        check.programError(9, "def @x=fun" + names + "->fun z->1;");
        check.programError(9, "def @x=Cons (fun" + names + "->Nil) Nil;");
        check.programError(9, "def @x=(fun" + names + "->1,1);");
        check.same("parts", check.compiled("def x=fun" + names + "->Nil=Nil;").measure(0, 0), 119);
        // A pair of both sides that has 2 * n + 1 parts, from 1: 3, 7, 15, 31, 63, 127.
        String doubles = "fun a->case Cons (a,a) Nil of Cons b t->case Cons (b,b) Nil of Cons c t->case Cons (c,c) Nil of"
                + " Cons d t->case Cons (d,d) Nil of Cons e t->case Cons (e,e) Nil of Cons f t->case Cons (f,f) Nil of"
                + " Cons g t->";
        String ends = " end".repeat(6);
        check.same("parts", check.compiled("def x=" + doubles + "f" + ends + ";").measure(0, 0), 65);
        check.same("parts", check.compiled("def x=" + doubles + "(f,e)" + ends + ";").measure(0, 0), 97);
        check.same("parts", check.compiled("def x=" + doubles + "(f,(e,(d,b)))" + ends + ";").measure(0, 0), 117);
        check.same("parts", check.compiled("def x=" + doubles + "(f,(e,(d,(b,1))))" + ends + ";").measure(0, 0), 119);
        check.same("parts", check.compiled("def x=" + doubles + "(f,(e,(d,(b,Nil))))" + ends + ";").measure(0, 0), 120);
        check.programError(9, "def @x=" + doubles + "(f,(e,(d,(b,(1,1)))))" + ends + ";");
        check.programError(9, "def @x=" + doubles + "g" + ends + ";");
        check.same("parts", check.compiled("def x=" + doubles + "1" + ends + ";").measure(0, 0), 3);
    }

    private static void placeOfTooManyParts(Check check) {
        check.holds(PARTS);
        String much = "fun" + " y".repeat(60) + "->1";
        check.programError(9, "def y=1; def\n @x =" + much + ";def z=y;");
        check.programError(9, "def @x=" + much + ";def z=1+true;");
        check.programError(5, "def z=1+@true;def x=" + much + ";");
        check.programError(9, "def @x:" + "'a->".repeat(60) + "int=" + much + ";");
        check.programError(8, "def x:@" + "int->".repeat(60) + "bool=" + much + ";");
        check.programError(8, "def x:@int=" + much + ";");
        check.compiled("def x=fst (1," + much + ");");
        check.compiled("def x=(" + much + ")=(" + much + ");");
    }

    private static void typeOfTheDefinition(Check check) {
        check.holds(TYPE);
        check.typeOfLast("def x=fun y->y;", "'a -> 'a");
        check.typeOfLast("def x:int->int=fun y->y;", "int -> int");
        check.typeOfLast("def x:'c=x;", "'a");
        check.typeOfLast("def x:'c->int=x;", "'a -> int");
        check.typeOfLast("def x:int->int=fun y->y;def z=x;", "int -> int");
        check.programError(5, "def x:int->int=fun y->y;def z=x @true;");
        check.compiled("def x=fun y->y;def z=x true;");
        check.typeOfLast("def x:list int=Nil;def z=Cons 1 x;", "list int");
        check.programError(5, "def x:list int=Nil;def z=Cons true @x;");
    }

    private static void generalBehind(Check check) {
        check.holds(TYPE);
        check.typeOfLast("def x=fun y->y;def z=(x 1,x true);", "int * bool");
        check.typeOfLast("def x:'q->'q=fun y->y;def z=(x 1,x true);", "int * bool");
        check.typeOfLast("def x=Nil;def z=(Cons 1 x,(Cons true x,x));", "list int * (list bool * list 'a)");
        check.typeOfLast("def x=x;def z=(x+1,if x then x else x);", "int * 'a");
        check.typeOfLast("def x=fun a b->a;def y=x;def z=(y 1 true,(y true 1,(x x x,y)));",
                "int * (bool * (('a -> 'b -> 'a) * ('c -> 'd -> 'c)))");
        check.programError(5, "def x=fun a->a;def z=fun b->(b 1,b @true);");
        check.typeOfLast("def x=fun a->a;def z=x x x x 1;", "int");
        check.typeOfLast("def p=fun a b->(a,b);def z=p 1;def w=(z true,z 2);", "(int * bool) * (int * int)");
    }

    private static void fitting(Check check) {
        check.holds(FIT);
        String[] types = {"int", "bool", "u", "o int", "o bool", "list int", "p int bool", "p bool int", "int*int",
            "int*bool", "bool*int", "int->int", "int->bool", "bool->int", "o (o int)", "q int int int", "q int int bool",
            "q int bool int", "q bool int int", "(int->int)->int", "int->int->int", "(int*int)*int", "int*(int*int)",
            "(int*bool)*(int*bool)", "(int*bool)*(bool*int)", "(bool*int)*(int*bool)", "(int->int)->int->int",
            "(int->int)->int->bool", "(int->bool)->int->int", "p (o int) (o int)", "p (o int) (o bool)",
            "p (o bool) (o int)", "q (o int) (o int) (o int)", "q (o int) (o int) (o bool)", "q (o int) (o bool) (o int)",
            "q (o bool) (o int) (o int)", "((int*int)*(int*int))*((int*int)*(int*int))",
            "((int*int)*(int*int))*((int*int)*(int*bool))", "((int*int)*(int*bool))*((int*int)*(int*int))",
            "o (o (o int))", "o (o (o bool))"};
        for (int one = 0; one < types.length; one++) {
            for (int other = 0; other < types.length; other++) {
                String text = TYPES + "def x:" + types[one] + "=x;def y:" + types[other] + "=y;def z=x=";
                if (one == other) {
                    check.typeOfLast(text + "y;", "bool");
                } else {
                    check.programError(5, text + "@y;");
                }
            }
            check.typeOfLast(TYPES + "def x:" + types[one] + "=x;def z=fun y->y=x;def w=z x;", "bool");
            check.typeOfLast(TYPES + "def x:" + types[one] + "=x;def z=fun y->x=y;def w=z x;", "bool");
        }
    }

    private static void itself(Check check) {
        check.holds(FIT);
        check.typeOfLast("def x=fun y->y=y;", "'a -> bool");
        check.typeOfLast("def x=fun y z->(y=z,(z=y,y=y));", "'a -> 'a -> bool * (bool * bool)");
        check.programError(5, "def x=fun y->y @y;");
        check.programError(5, "def x=fun y->y=@(y,1);");
        check.programError(5, "def x=fun y->y=@(1,y);");
        check.programError(5, "def x=fun y->(y,1)=@y;");
        check.programError(5, "def x=fun y->y=@Cons y Nil;");
        check.programError(5, "def x=fun y->y=@(fun z->y);");
        check.programError(5, "def x=fun y->y=@(fun z->z=y);");
        check.programError(5, "def x=fun y z->(y=Cons z Nil,z=@Cons y Nil);");
        check.programError(5, "def x=fun y z w->(y=(z,1),(z=(w,1),w=@(y,1)));");
        check.typeOfLast("def x=fun y z w->(y=(z,1),(z=(w,1),w=1));",
                "(int * int) * int -> int * int -> int -> bool * (bool * bool)");
        check.programError(5, "type q 'a 'b 'c=Q 'a 'b 'c;def x=fun y->y=@Q 1 2 y;");
        check.programError(5, "type q 'a 'b 'c=Q 'a 'b 'c;def x=fun y->y=@Q 1 y 2;");
        check.programError(5, "type q 'a 'b 'c=Q 'a 'b 'c;def x=fun y->y=@Q y 1 2;");
        // Both sides have the same unknown one, in the same place and in another.
        check.typeOfLast("def x=fun y->(y,1)=(y,2);", "'a -> bool");
        check.programError(5, "def x=fun y z->(y,z)=@(z,(y,y));");
        check.typeOfLast("def x=fun y z->((y,z)=(z,y),y);", "'a -> 'a -> bool * 'a");
    }

    private static void knownInAll(Check check) {
        check.holds(FIT);
        check.typeOfLast("def x=fun y->((y,y),y+1);", "int -> (int * int) * int");
        check.typeOfLast("def x=fun a b c->(a=b,(b=c,c=1));", "int -> int -> int -> bool * (bool * bool)");
        check.typeOfLast("def x=fun a b c->(a=1,(b=c,c=a));", "int -> int -> int -> bool * (bool * bool)");
        check.programError(5, "def x=fun a b c->(a=b,(b=c,(a=1,c=@true)));");
        check.programError(5, "def x=fun a b c->((a,b)=(b,c),(a+1,if @c then 1 else 2));");
        check.typeOfLast("def x=fun f g a->(f a=g a,f=g);", "('a -> 'b) -> ('a -> 'b) -> 'a -> bool * bool");
        // What is unknown stands beside parts that do not fit.
        check.programError(5, "def x=fun a->((1,2),a)=@((1,true),3);");
        check.programError(5, "def x=fun a->((1,2),3)=@((1,true),a);");
        check.programError(5, "def x=fun a->(a,(1,2))=@(3,(1,true));");
        check.programError(5, "def x=fun a->(3,(1,2))=@(a,(1,true));");
        check.programError(5, "def x=fun a b->((1,2),(a,b))=@((1,true),((2,3),4));");
        check.programError(5, "def x=fun a b->((1,2),((a,b),3))=@((1,2),((4,5),true));");
        check.typeOfLast("def x=fun a b->(((1,2),a)=((1,2),(3,b)),b);", "int * 'a -> 'a -> bool * 'a");
        check.typeOfLast("def x=fun a b->((a,(1,b))=((true,2),(1,(a,a))),1);",
                "bool * int -> (bool * int) * (bool * int) -> bool * int");
    }

    private static void orderInADefinition(Check check) {
        check.holds("of two at one place that which is told first here;");
        check.programError(3, "def x=1;def @x:nope=y;");
        check.programError(2, "def x:list @nope=y;");
        check.programError(2, "def x:'a=@y;");
        check.programError(5, "def x:'a=1+@true;");
        check.programError(5, "def x:bool=@fun y->x;");
        check.programError(2, "def x=@y+1;");
        check.programError(5, "def x=@true+x;");
        check.programError(8, "def x:@'a=fun" + " y".repeat(60) + "->1;");
    }
}
