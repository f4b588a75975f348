/** Promises 4 and 5: the errors of meaning in items of types and in forms. */
public final class ItemErrorsTest {
    private static final String SIX_TYPES = "type a=A;type b=B;type c=C;type d=D;type e=E;type f=F;";

    public static void main(String[] args) {
        Check check = new Check("ItemErrorsTest");
        headsOfTypes(check);
        marks(check);
        constructors(check);
        partsOfConstructors(check);
        formsOfDefinitions(check);
        orderOfErrors(check);
        check.end();
    }

    private static void headsOfTypes(Check check) {
        check.holds("An item type, from left to right: Error 4 (at type): a 7th type of items. Error 3 (at the"
                + " name): int, bool, list, or a type of an item ahead.");
        check.compiled(SIX_TYPES);
        check.programError(4, SIX_TYPES + "@type g=G;");
        check.programError(4, SIX_TYPES + "def x = 1; @type a=G;");
        check.programError(3, "type @int = A;");
        check.programError(3, "type @bool 'a = A;");
        check.programError(3, "type @list = A;");
        check.programError(3, "type t = A; type @t = B;");
        check.compiled("type fst = A; type snd = B; type nil = C;");
        check.compiled("type t = A; def t = A;");
    }

    private static void marks(Check check) {
        check.holds("Error 3 (at the mark): a mark twice; Error 4 (at the mark): a 4th one.");
        check.compiled("type t 'a 'b 'c = A;");
        check.programError(4, "type t 'a 'b 'c @'d = A;");
        check.programError(3, "type t 'a @'a = A;");
        check.programError(3, "type t 'b 'a @'b = A;");
        check.programError(3, "type t 'a 'b 'c @'a = A;");
        check.compiled("type t 'z = A 'z; type u 'z = B 'z;");
        check.programError(2, "type t 'z = A 'z; type u = B @'z;");
    }

    private static void constructors(Check check) {
        check.holds("For each constructor: Error 3 (at the capital): a constructor that is known; Error 4 (at the"
                + " capital): a 25th one, without Nil and Cons; Error 4 (at the part): a 4th part.");
        check.programError(3, "type t = A | @A;");
        check.programError(3, "type t = A | B int | @A int;");
        check.programError(3, "type t = A; type u = B | @A;");
        check.programError(3, "type t = @Nil;");
        check.programError(3, "type t = B | @Cons int;");
        StringBuilder most = new StringBuilder("type t = A");
        for (int n = 1; n < 24; n++) {
            most.append(" | A").append(n);
        }
        check.same("constructors", check.compiled(most + ";").count(1), 24);
        check.programError(4, most + " | @B;");
        check.programError(4, most + "; type u = @B;");
        check.programError(3, most + "; type u = @A7;");
        check.programError(3, most + " | @Nil;");
    }

    private static void partsOfConstructors(Check check) {
        check.holds("In its parts: Error 2 (at the mark): a mark that does not stand behind the name; Error 2 (at"
                + " the name): a type that is not known (that of this item is); Error 6 (at the name): more or fewer"
                + " parts than it has marks (0 for int and bool; a name as a part has none; looked at behind its"
                + " parts).");
        check.compiled("type t = A int bool (list int);");
        check.programError(4, "type t = A int int int @int;");
        check.programError(4, "type t = A int int int @nope;");
        check.programError(4, "type t = A int int int @(nope);");
        check.programError(4, "type t = A int int int @'q;");
        check.programError(2, "type t = A int int @nope int;");
        check.programError(2, "type t 'a = A @'b;");
        check.programError(2, "type t 'a = A 'a (int -> @'b);");
        check.programError(2, "type t = A @u; type u = B;");
        check.compiled("type u = B; type t = A u t;");
        check.programError(6, "type t = A @list;");
        check.programError(6, "type t = A (@list);");
        check.programError(6, "type t = A (@list int int);");
        check.programError(6, "type t = A (@int int);");
        check.programError(6, "type t = A (@bool t);");
        check.programError(6, "type t 'a = A @t;");
        check.programError(6, "type t 'a = A (@t int int);");
        check.programError(6, "type t = A (@t int);");
        check.compiled("type t 'a = A (t (t 'a));");
        check.programError(6, "type t 'a 'b 'c = A (@t 'a 'b);");
        check.compiled("type t 'a 'b 'c = A (t 'a 'b 'c);");
        check.programError(6, "type t 'a 'b 'c = A (@t 'a 'b 'c 'a);");
        check.programError(2, "type t = A (@fst);");
    }

    private static void formsOfDefinitions(Check check) {
        check.holds("If it has a form, this is looked at: errors 2 and 6 as above, but all marks are known there.");
        check.programError(2, "def x : @nope = 1;");
        check.programError(2, "def x : int -> list @nope = 1;");
        check.programError(6, "def x : @list = 1;");
        check.programError(6, "def x : int -> @list * int = 1;");
        check.programError(6, "def x : @int 'a = 1;");
        check.programError(6, "def x : list @list = 1;");
        check.programError(6, "def x : @list (list int) int = 1;");
        check.programError(2, "def x : @t = A; type t = A;");
        check.compiled("type t = A; def x : t = A;");
        check.programError(2, "def x : list @nope = y;");
    }

    /** What stands in a name is looked at behind the name, and ahead of how many parts it has. */
    private static void orderOfErrors(Check check) {
        check.holds("Only if there is no error of form, the meaning is looked at, item by item, in each in the order"
                + " told below: the first error is told (of two at one place that which is told first here; a part"
                + " too many ahead of what is in it).");
        check.programError(2, "def x : list int @nope = 1;");
        check.programError(6, "def x : list @list list = 1;");
        check.programError(2, "def x : @nope list = 1;");
        check.programError(2, "type t = A (int (list @u) int);");
        check.programError(6, "type t = A @list u;");
        check.programError(3, "type t 'a @'a = A; type t = B;");
        check.programError(3, "type t = A; type @t 'a 'a = A;");
        check.programError(3, "def x = 1; def @x : nope = y;");
        check.programError(2, "def x : @nope = y; def x = 1;");
    }
}
