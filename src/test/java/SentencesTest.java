/** The sentences of the document that tell what all is for, and those that tell what a parameter or an answer is. */
public final class SentencesTest {
    private static final int BLANKS = 0x20202020;
    private static final int MOST = 1200;
    private static final String THREE = "type t 'a=A 'a|B;type u=C;def x=1;def y=true;def z=fun a->A a;";
    private static final String[] TYPES = {"int", "bool", "'a -> t 'a"};
    private static final String[] CONSTRUCTORS = {"'a -> t 'a", "t 'a", "u"};

    public static void main(String[] args) {
        Check check = new Check("SentencesTest");
        wholeProgram(check);
        firstMisfit(check);
        types(check);
        bytesOfNumbers(check);
        keptBytes(check);
        numbersOfDefinitions(check);
        numbersOfConstructors(check);
        placesOfTheText(check);
        placesOnThePaper(check);
        pairsOfDefinitions(check);
        firstException(check);
        checksums(check);
        check.end();
    }

    private static void wholeProgram(Check check) {
        check.holds("A program tells types with their constructors, and definitions; for each definition the most"
                + " general type is found, or the first place at which something does not fit; and it is told what type"
                + " stands at any place of the text, what type an expression has, and how the types of two definitions"
                + " are to each other.");
        String text = "type tree 'a = Leaf | Node (tree 'a) 'a (tree 'a);\n"
                + "def size = fun t -> case t of Leaf -> 0 | Node l x r -> size l + 1 + size r end;\n"
                + "def one = fun x -> Node Leaf x Leaf;\n"
                + "def ones : tree int -> tree int = fun t -> case t of Leaf -> one 1 | Node l x r -> l end;";
        TypeLoom loom = check.compiled(text);
        String[] due = {"tree 'a -> int", "'a -> tree 'a", "tree int -> tree int"};
        for (int def = 0; def < due.length; def++) {
            check.same("definition " + def, Check.written(loom, def), due[def]);
        }
        check.same("Node", loom.writeConstructor(1), 35);
        check.same("Node", Check.paper(loom), "tree 'a -> 'a -> tree 'a -> tree 'a");
        loom.writeAt(text.indexOf("one 1"));
        check.same("one, at its use", Check.paper(loom), "int -> tree int");
        check.answer(loom, "fun a -> size (one (a, true))", "'a -> int");
        check.isTrue("one covers ones", loom.covers(1, 1) && !loom.covers(1, 2) && !loom.covers(2, 1));
        check.same("what size and ones have in common", loom.meet(0, 2), 0);
    }

    private static void firstMisfit(Check check) {
        check.programError(5, "def a = 1; def b = a @true; def c = 1 + true;");
        check.programError(5, "def a = fun x -> if x then x @1 else x 2 3;");
        check.programError(2, "def a = @b; def b = 1 + true;");
    }

    private static void types(Check check) {
        check.holds("Types. int and bool; a * b, a pair; a -> b, a function (a -> b -> c is a -> (b -> c)); and a name"
                + " of a type of an item, with as many types as this item has marks.");
        check.typeOfLast("def x = 1;", "int");
        check.typeOfLast("def x = true;", "bool");
        check.typeOfLast("def x = (1, true);", "int * bool");
        check.typeOfLast("def x : int -> bool = x;", "int -> bool");
        check.typeOfLast("def x : int -> (int -> bool) = x;", "int -> int -> bool");
        check.typeOfLast("def x : (int -> int) -> bool = x;", "(int -> int) -> bool");
        check.programError(8, "def x : @(int -> int) -> int = fun a b -> a;");
        check.typeOfLast("type t = A; def x = A;", "t");
        check.typeOfLast("type t 'a = A 'a; def x = A 1;", "t int");
        check.typeOfLast("type t 'a 'b = A 'b; def x = A 1;", "t 'a int");
        check.typeOfLast("type t 'c 'b 'a = A 'b; def x = A 1;", "t 'a int 'b");
        check.typeOfLast("def x = Cons 1 Nil;", "list int");
    }

    /** A byte with which no token begins is found at its place by its error. */
    private static void bytesOfNumbers(Check check) {
        String[] sentences = {"`a`: bytes 1 to 4", "`b`: bytes 5 to 8", "`c`: bytes 9 to 12", "`d`: bytes 13 to 16",
            "`e`: bytes 17 to 20"};
        for (int number = 0; number < sentences.length; number++) {
            check.holds(sentences[number]);
            for (int k = 0; k < 4; k++) {
                int[] fed = {BLANKS, BLANKS, BLANKS, BLANKS, BLANKS};
                fed[number] = BLANKS ^ (' ' ^ '#') << 24 - 8 * k;
                TypeLoom loom = new TypeLoom();
                check.same("feed", loom.feed(fed[0], fed[1], fed[2], fed[3], fed[4]), 20);
                check.same("compile", loom.compile(), 1);
                check.same("byte " + k + " of number " + number, loom.errorAt(), 4 * number + k);
            }
        }
    }

    private static void keptBytes(Check check) {
        check.holds("`n`: how many are kept");
        String text = "def x=fst (1,true);";
        for (int n = 0; n <= 19; n++) {
            TypeLoom loom = new TypeLoom();
            Check.put(loom, text);
            check.same("trim(" + n + ")", loom.trim(n), n);
            check.same("bytes of the tape", loom.count(3), n);
            check.same("compile of " + n, loom.compile(), n == text.length() ? 0 : 1);
            // The first two bytes alone are a name, with which no item begins.
            check.same("errorAt of " + n, loom.errorAt(), n == text.length() ? -1 : n < 3 ? 0 : n);
        }
    }

    private static void numbersOfDefinitions(Check check) {
        check.holds("`def`: the definition, from 0, in their order Returns the number of bytes.");
        TypeLoom loom = check.compiled(THREE);
        for (int turn = 0; turn < 6; turn++) {
            int def = turn * 2 % TYPES.length;
            check.same("write(" + def + ")", loom.write(def), TYPES[def].length());
            check.same("bytes of the paper", loom.count(4), TYPES[def].length());
            check.same("the paper", Check.paper(loom), TYPES[def]);
        }
        check.noSuch("write(-1)", () -> loom.write(-1));
        check.noSuch("write(3)", () -> loom.write(3));
    }

    private static void numbersOfConstructors(Check check) {
        check.holds("`constructor`: the constructor, from 0, in their order, without Nil and Cons Returns the number of"
                + " bytes.");
        TypeLoom loom = check.compiled(THREE);
        for (int turn = 0; turn < 6; turn++) {
            int number = turn * 2 % CONSTRUCTORS.length;
            check.same("writeConstructor(" + number + ")", loom.writeConstructor(number), CONSTRUCTORS[number].length());
            check.same("the paper", Check.paper(loom), CONSTRUCTORS[number]);
        }
        check.noSuch("writeConstructor(-1)", () -> loom.writeConstructor(-1));
        check.noSuch("writeConstructor(-2)", () -> loom.writeConstructor(-2));
        check.noSuch("writeConstructor(3)", () -> loom.writeConstructor(3));
    }

    private static void placesOfTheText(Check check) {
        check.holds("`place`: a place in the text of the program Returns the number of bytes.");
        // The text of the program stays what it was, whatever the tape holds behind it.
        TypeLoom loom = check.compiled("def x=1;def y=true;");
        Check.put(loom, "true");
        check.same("writeAt(6)", loom.writeAt(6), 3);
        check.same("the paper", Check.paper(loom), "int");
        check.same("writeAt(14)", loom.writeAt(14), 4);
        check.same("the paper", Check.paper(loom), "bool");
        check.same("writeAt(17)", loom.writeAt(17), 4);
        int[] without = {-1, 0, 3, 4, 5, 7, 8, 13, 18, 19, MOST - 1, MOST, Integer.MAX_VALUE, Integer.MIN_VALUE};
        for (int place : without) {
            check.noSuch("writeAt(" + place + ")", () -> loom.writeAt(place));
        }
        check.same("ask", loom.ask(), 0);
        check.same("writeAt(6) behind an ask", loom.writeAt(6), 3);
    }

    private static void placesOnThePaper(Check check) {
        check.holds("`k`: a place on the paper Returns the byte there.");
        TypeLoom loom = check.compiled(THREE);
        check.noSuch("byteAt(0) of an empty paper", () -> loom.byteAt(0));
        loom.write(2);
        for (int k = 0; k < TYPES[2].length(); k++) {
            check.same("byteAt(" + k + ")", loom.byteAt(k), TYPES[2].charAt(k));
        }
        check.noSuch("byteAt(-1)", () -> loom.byteAt(-1));
        check.noSuch("byteAt(10)", () -> loom.byteAt(10));
        loom.write(0);
        check.same("byteAt(2)", loom.byteAt(2), 't');
        check.noSuch("byteAt(3) of a shorter paper", () -> loom.byteAt(3));
    }

    private static void pairsOfDefinitions(Check check) {
        check.holds("`a`: a definition - `b`: a definition");
        TypeLoom loom = check.compiled("def x=fun a->a;def y=x 1;def z=(x,x (y,y));");
        int[][] uses = {{0, 0, 0}, {1, 0, 0}, {2, 2, 0}};
        for (int a = 0; a < 3; a++) {
            for (int b = 0; b < 3; b++) {
                check.same("uses(" + a + ", " + b + ")", loom.uses(a, b), uses[a][b]);
                check.same("covers(" + a + ", " + b + ")", loom.covers(a, b) ? 1 : 0, a == b ? 1 : 0);
                check.same("meet(" + a + ", " + b + ")", loom.meet(a, b), a == b ? Check.written(loom, a).length() : 0);
            }
        }
    }

    /** No such definition is told ahead of a type that is too long, where one of the two is. */
    private static void firstException(Check check) {
        check.holds("If several exceptions apply, the one that is named first is thrown.");
        TypeLoom loom = check.compiled("type longname=A;def f:" + "longname->".repeat(50) + "longname=f;def x=f;");
        check.tooLong("write(0)", () -> loom.write(0));
        check.tooLong("meet(0, 1)", () -> loom.meet(0, 1));
        for (int none : new int[] {-1, 2, Integer.MAX_VALUE, Integer.MIN_VALUE}) {
            check.noSuch("write(" + none + ")", () -> loom.write(none));
            check.noSuch("writeConstructor(" + none + ")", () -> loom.writeConstructor(none));
            check.noSuch("writeAt(" + none + ")", () -> loom.writeAt(none));
            check.noSuch("meet(0, " + none + ")", () -> loom.meet(0, none));
            check.noSuch("meet(" + none + ", 0)", () -> loom.meet(none, 0));
        }
        check.same("the paper", loom.count(4), 0);
    }

    private static void checksums(Check check) {
        check.holds("Computes a checksum. A number d starts with 409;");
        TypeLoom loom = new TypeLoom();
        check.same("digest of a new object", loom.digest(), rolled(0, 0, 0, 0, 0));
        check.same("compile", Check.compile(loom, "def x=1;"), 0);
        check.same("digest of one definition", loom.digest(), rolled(0, 0, 1, 0, 0, 1, 0, 0, 0));
        loom.write(0);
        check.same("digest with a paper", loom.digest(), rolled(0, 0, 1, 0, 3, 1, 0, 0, 0, 'i', 'n', 't'));
        loom.feed(0, 0, 0, 0, 0);
        check.same("digest with a tape", loom.digest(), rolled(0, 0, 1, 20, 3, 1, 0, 0, 0, 'i', 'n', 't'));
    }

    private static long rolled(int... numbers) {
        long d = 409;
        for (int x : numbers) {
            d = d * 31 + x;
        }
        return d;
    }
}
