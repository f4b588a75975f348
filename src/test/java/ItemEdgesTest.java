/** Each sentence on types, their items and forms that names an edge. */
public final class ItemEdgesTest {
    private static final String CAPITALS = "For each constructor: Error 3 (at the capital): a constructor that is known;"
            + " Error 4 (at the capital): a 25th one, without Nil and Cons; Error 4 (at the part): a 4th part.";
    private static final String PARTS = "Error 6 (at the name): more or fewer parts than it has marks (0 for int and bool; a"
            + " name as a part has none; looked at behind its parts).";
    private static final String NOT_KNOWN = "Error 2 (at the name): a type that is not known (that of this item is);";
    private static final String ORDER = "the first error is told (of two at one place that which is told first here; a part"
            + " too many ahead of what is in it).";

    public static void main(String[] args) {
        Check check = new Check("ItemEdgesTest");
        arrows(check);
        knownAtTheBeginning(check);
        ownNames(check);
        numberOfTypes(check);
        namesOfTypes(check);
        marksOfTypes(check);
        capitals(check);
        numberOfConstructors(check);
        numberOfParts(check);
        marksInParts(check);
        typesInParts(check);
        numbersOfParts(check);
        typesOfConstructors(check);
        fromLeftToRight(check);
        twoAtOnePlace(check);
        forms(check);
        check.end();
    }

    private static void arrows(Check check) {
        check.holds("a -> b, a function (a -> b -> c is a -> (b -> c)); and a name of a type of an item, with as many types"
                + " as this item has marks.");
        check.typeOfLast("def x : int -> bool -> int = x;", "int -> bool -> int");
        check.typeOfLast("def x : int -> (bool -> int) = x;", "int -> bool -> int");
        check.typeOfLast("def x : (int -> bool) -> int = x;", "(int -> bool) -> int");
        check.typeOfLast("def x : int -> bool -> int = x; def y : int -> (bool -> int) = x; def z = x = y;", "bool");
        check.programError(8, "def x : int -> (bool -> int) = x; def y : @(int -> bool) -> int = x;");
        check.typeOfLast("type m 'a 'b 'c = M; def x : m int bool (int -> int) = M;", "m int bool (int -> int)");
    }

    private static void knownAtTheBeginning(Check check) {
        check.holds("Known at the beginning are: the name list with one type, with the constructors Nil of list 'a, and Cons"
                + " of 'a -> list 'a -> list 'a; and the functions fst of 'a * 'b -> 'a and snd of 'a * 'b -> 'b");
        TypeLoom loom = new TypeLoom();
        check.answer(loom, "Nil", "list 'a");
        check.answer(loom, "Cons", "'a -> list 'a -> list 'a");
        check.answer(loom, "fst", "'a * 'b -> 'a");
        check.answer(loom, "snd", "'a * 'b -> 'b");
        check.answer(loom, "case Nil of Cons a b -> (a, b) | Nil -> (1, Nil) end", "int * list int");
        check.questionError(loom, 6, "case Nil of @Cons a -> 1 end");
        check.questionError(loom, 6, "case Nil of @Nil a -> 1 end");
        for (String name : new String[] {"nil", "cons", "list", "int", "bool", "thd", "fsts", "fs", "sn"}) {
            check.questionError(loom, 2, "@" + name);
        }
        for (String capital : new String[] {"List", "Fst", "Ni", "Nill", "Con", "Conss", "N", "C", "True", "Int"}) {
            check.questionError(loom, 2, "@" + capital);
        }
        check.compiled("def x : list int = Nil; def y : list 'a = Nil; def z : int = 1; def w : bool = true;");
        check.programError(6, "def x : @list = Nil;");
        check.programError(6, "def x : @list int int = Nil;");
        check.programError(2, "def x : @fst = 1;");
    }

    private static void ownNames(Check check) {
        check.holds("(definitions can have these names, too, and then they mean these).");
        check.typeOfLast("def x = fst; def fst = 1; def y = (fst, x);", "int * ('a * 'b -> 'a)");
        check.typeOfLast("def x = snd; def snd = true; def y = (snd, x);", "bool * ('a * 'b -> 'b)");
        check.typeOfLast("def fst = fun x -> if x then fst x else 1;", "bool -> int");
        check.programError(5, "def fst = fun x -> fst (1, x) + fst @2;");
        check.programError(3, "def snd = 1; def @snd = 2;");
        TypeLoom loom = check.compiled("def fst = 1; def x = fst; def snd = snd;");
        check.answer(loom, "(fst, snd)", "int * 'a");
        check.same("uses of fst", loom.uses(1, 0), 1);
        check.same("uses of snd", loom.uses(2, 2), 1);
        Check.compile(loom, "def x = 1;");
        check.answer(loom, "(fst, snd)", "('a * 'b -> 'a) * ('c * 'd -> 'd)");
    }

    private static String types(int many) {
        StringBuilder text = new StringBuilder();
        for (int n = 0; n < many; n++) {
            text.append("type t").append(n).append("=K").append(n).append(';');
        }
        return text.toString();
    }

    private static void numberOfTypes(Check check) {
        check.holds("An item type, from left to right: Error 4 (at type): a 7th type of items.");
        for (int many = 1; many <= 6; many++) {
            check.same("types", check.compiled(types(many)).count(0), many);
        }
        check.programError(4, types(6) + "@type t6=K6;");
        check.programError(4, types(6) + " \n @type t6=K6;type t7=K7;");
        check.programError(4, types(6) + "def x=1;@type t6=K6;");
        check.programError(2, types(6) + "def x=@y;type t6=K6;");
        check.compiled(types(3) + "def x=1;" + "type u=A;def y=x;type v=B;type w=C;");
    }

    private static void namesOfTypes(Check check) {
        check.holds("Error 3 (at the name): int, bool, list, or a type of an item ahead.");
        check.programError(3, "type @int=A;");
        check.programError(3, "type @bool=A;");
        check.programError(3, "type @list=A;");
        check.programError(3, "type @list 'a=A;");
        check.programError(3, "type t=A;type @t=B;");
        check.programError(3, "type t=A;type u=B;type @t 'a=C;");
        check.programError(3, types(5) + "type @t0=A;");
        check.programError(3, types(5) + "type @t4=A;");
        check.compiled("type ints=A;type boo=B;type lists=C;type in1=D;type fst=E;type snd=F;");
        check.compiled("def t=1;type t=A;def u=t;");
    }

    private static void marksOfTypes(Check check) {
        check.holds("Error 3 (at the mark): a mark twice; Error 4 (at the mark): a 4th one.");
        check.compiled("type t=A;type u 'a=B;type v 'a 'b=C;type w 'a 'b 'c=D;");
        check.programError(4, "type t 'a 'b 'c @'d=A;");
        check.programError(4, "type t 'a 'b 'c @'d 'e=A;");
        check.programError(4, "type t 'a 'b 'c @'d 'd=A;");
        check.programError(3, "type t 'a @'a=A;");
        check.programError(3, "type t 'a 'b @'a=A;");
        check.programError(3, "type t 'a 'b @'b=A;");
        check.programError(3, "type t 'z @'z 'z=A;");
        check.programError(3, "type t 'a @'a 'b 'c=A;");
        check.compiled("type t 'a=A;type u 'a=B;");
        check.typeOfLast("type t 'z 'y 'a=A 'a 'z;def x=A 1 true;", "t bool 'a int");
    }

    private static void capitals(Check check) {
        check.holds(CAPITALS);
        check.programError(3, "type t=@Nil;");
        check.programError(3, "type t=@Cons;");
        check.programError(3, "type t=A|@Nil;");
        check.programError(3, "type t=A int|B|@A;");
        check.programError(3, "type t=A|@A int;");
        check.programError(3, "type t=A|B;type u=C|@B;");
        check.compiled("type t=A|Aa|A1|Ni|Nill|Con|Conss;");
    }

    private static String constructors(int many) {
        StringBuilder text = new StringBuilder("type t=");
        for (int n = 0; n < many; n++) {
            text.append(n == 0 ? "K" : "|K").append(n);
        }
        return text.toString();
    }

    private static void numberOfConstructors(Check check) {
        check.holds(CAPITALS);
        for (int many = 1; many <= 24; many++) {
            check.same("constructors", check.compiled(constructors(many) + ";").count(1), many);
        }
        check.programError(4, constructors(24) + "|@K24;");
        check.programError(4, constructors(24) + "|@K24 nope|K25;");
        check.programError(4, constructors(24) + ";type u=@K24;");
        check.programError(4, constructors(23) + ";type u=K23|@K24;");
        check.programError(4, constructors(23) + ";type u=K23;type v=@K24;");
        check.same("constructors", check.compiled(types(5) + "type u=A|B|C|D|E|F|G|H|I|J|K|L|M|N|O|P|Q|R|S;").count(1), 24);
        check.programError(4, types(5) + "type u=A|B|C|D|E|F|G|H|I|J|K|L|M|N|O|P|Q|R|S|@T;");
    }

    private static void numberOfParts(Check check) {
        check.holds(CAPITALS);
        check.typeOfLast("type t=A;def x=A;", "t");
        check.typeOfLast("type t=A int;def x=A;", "int -> t");
        check.typeOfLast("type t=A int bool;def x=A;", "int -> bool -> t");
        check.typeOfLast("type t=A int bool t;def x=A;", "int -> bool -> t -> t");
        check.programError(4, "type t=A int bool t @int;");
        check.programError(4, "type t=A int bool t @int int int;");
        check.programError(4, "type t=A int bool t @(int);");
        check.programError(4, "type t 'a=A int bool int @'a;");
        check.programError(4, "type t=A|B (int)(int)(int)@(int);");
        check.compiled("type t=A int int int|B int int int|C int int int;");
        check.compiled("type t=A (int * int -> int -> int -> int -> int);");
    }

    private static void marksInParts(Check check) {
        check.holds("In its parts: Error 2 (at the mark): a mark that does not stand behind the name;");
        check.compiled("type t 'a 'b 'c=A 'a 'b 'c;");
        check.programError(2, "type t=A @'a;");
        check.programError(2, "type t 'a=A 'a @'b;");
        check.programError(2, "type t 'a 'b=A 'a ('b -> @'c);");
        check.programError(2, "type t 'a 'b=A 'a|B 'b|C (list @'z);");
        check.programError(2, "type t 'a=A 'a;type u 'b=B @'a;");
        check.programError(2, "type t 'a=A 'a;type u=B @'a;");
        check.compiled("type t 'a=A ('a->'a*list 'a);");
    }

    private static void typesInParts(Check check) {
        check.holds(NOT_KNOWN);
        check.compiled("type t=A t (t -> t) (t * t);");
        check.compiled("type t 'a=A (t 'a) (t int) (t (t 'a));");
        check.programError(2, "type t=A @u;type u=B;");
        check.compiled("type u=B;type t=A u;");
        check.programError(2, "type t=A (int -> @u);");
        check.programError(2, "type t=A (@u int);");
        check.programError(2, "type t=A (list @u);");
        check.programError(2, "type t=A @x;def x=1;");
        check.programError(2, "def x=1;type t=A @x;");
    }

    /** Each type of a name, with each number of parts. */
    private static void numbersOfParts(Check check) {
        check.holds(PARTS);
        String items = "type m=M;type o 'a=O;type p 'a 'b=P;type q 'a 'b 'c=Q;";
        String[] names = {"int", "bool", "m", "list", "o", "p", "q"};
        int[] marks = {0, 0, 0, 1, 1, 2, 3};
        for (int n = 0; n < names.length; n++) {
            for (int parts = 0; parts <= 5; parts++) {
                numberOfParts(check, items, names[n] + " int".repeat(parts), parts == marks[n]);
                numberOfParts(check, items, names[n] + " (int)".repeat(parts), parts == marks[n]);
            }
            if (marks[n] == 0) {
                check.compiled(items + "type t=A " + names[n] + ";def x:list " + names[n] + "=x;");
            } else {
                check.programError(6, items + "type t=A @" + names[n] + ";");
                check.programError(6, items + "def x:list @" + names[n] + "=x;");
                check.programError(6, items + "def x:" + names[n] + " @" + names[n] + " int=x;");
            }
        }
        numberOfParts(check, "", "t", true);
        check.programError(6, "type t 'a 'b=A (@t 'a);");
        check.programError(6, "type t 'a 'b=A (@t 'a 'b 'a);");
        check.programError(6, "type t 'a 'b=A @t;");
        check.programError(6, "type t=A (@t int);");
        check.compiled("type t 'a 'b=A (t 'a 'b);");
    }

    private static void numberOfParts(Check check, String items, String form, boolean right) {
        if (right) {
            check.compiled(items + "type t=A (" + form + ");def x:" + form + "=x;");
        } else {
            check.programError(6, items + "type t=A (@" + form + ");");
            check.programError(6, items + "def x:@" + form + "=x;");
            check.programError(6, items + "def x:int->(int*@" + form + ")=x;");
        }
    }

    private static void typesOfConstructors(Check check) {
        check.holds("The constructor has the type of a function from its parts, one after the other, to the name with its"
                + " marks.");
        TypeLoom loom = check.compiled("type t=A|B t|C t (t->t)(t*t);type u 'b 'a=D|E 'a|F 'b 'a(u 'a 'b);"
                + "type v 'x 'y 'z=G 'z 'x(v 'y 'y 'x);");
        String[] due = {"t", "t -> t", "t -> (t -> t) -> t * t -> t", "u 'a 'b", "'a -> u 'b 'a",
            "'a -> 'b -> u 'b 'a -> u 'a 'b", "'a -> 'b -> v 'c 'c 'b -> v 'b 'c 'a"};
        for (int n = 0; n < due.length; n++) {
            check.same("writeConstructor(" + n + ")", loom.writeConstructor(n), due[n].length());
            check.same("its paper", Check.paper(loom), due[n]);
        }
    }

    private static void fromLeftToRight(Check check) {
        check.holds("An item type, from left to right:");
        check.programError(4, types(6) + "@type int 'a 'a=Nil;");
        check.programError(3, "type @int 'a 'a 'b 'c 'd=Nil;");
        check.programError(3, "type t 'a @'a 'b 'c 'd=Nil;");
        check.programError(4, "type t 'a 'b 'c @'d=Nil;");
        check.programError(3, "type t 'a=@Nil 'b|A u;");
        check.programError(2, "type t 'a=A @'b u|A;");
        check.programError(2, "type t 'a=A @u 'b|A;");
        check.programError(6, "type t 'a=A @list 'b|A;");
        check.programError(2, "type t 'a=A 'a 'a @u int|A;");
        check.programError(4, "type t 'a=A 'a 'a int @u|A;");
        check.programError(3, "type t 'a=A 'a int|@A 'b;");
        check.programError(3, "type t 'a=A 'a|@A;type t=B;");
        check.programError(2, "type t=A (int->@u) v;");
        check.programError(6, "type t=A ((@int int)->u);");
        check.programError(2, "type t=A (@u->int int);");
    }

    private static void twoAtOnePlace(Check check) {
        check.holds(ORDER);
        // A mark that is twice there and the fourth one, too; a known constructor as the 25th.
        check.programError(3, "type t 'a 'b 'c @'a=A;");
        check.programError(3, "type t 'a 'b 'c @'c=A;");
        check.programError(3, constructors(24) + "|@K0;");
        check.programError(3, constructors(24) + ";type u=@Nil;");
        // A fourth part that is wrong itself.
        check.programError(4, "type t=A int int int @u;");
        check.programError(4, "type t=A int int int @'a;");
        check.programError(4, "type t=A int int int @list;");
        check.programError(4, "type t=A int int int @(u);");
        check.programError(4, "type t=A int int int @((int int)->u);");
        // A name that is not known has no marks that could be too few.
        check.programError(2, "type t=A (@u int);");
        check.programError(2, "def x:@u int int=1;");
        // The parts of a name go ahead of their number.
        check.programError(2, "type t=A (int @u);");
        check.programError(2, "type t=A (int int @'b);");
        check.programError(6, "type t=A (int @list);");
        check.programError(6, "def x:list int (@bool int)=1;");
        check.programError(6, "def x:@list int (list int)=1;");
        check.programError(2, "def x:list int (list @u)=1;");
    }

    private static void forms(Check check) {
        check.holds("If it has a form, this is looked at: errors 2 and 6 as above, but all marks are known there.");
        check.compiled("def x:'a=x;");
        check.compiled("def x:'z->'y->list 'x=x;");
        check.compiled("type t 'a=A;def x:t 'b=A;def y:t (t 'c)=A;");
        check.programError(2, "def x:@t=x;");
        check.programError(2, "def x:@x=x;");
        check.programError(2, "def x:'a->@t 'a=x;");
        check.programError(6, "def x:'a->@list=x;");
        check.programError(6, "def x:@int 'a=y;");
        check.programError(2, "def x:@t=x;type t=A;");
        check.programError(2, "def x:int=@y;");
        check.typeOfLast("def x:" + "int->".repeat(55) + "int=x;", "int -> ".repeat(55) + "int");
    }
}
