/** Promise 17: digest. */
public final class DigestTest {
    public static void main(String[] args) {
        Check check = new Check("DigestTest");
        empty(check);
        countsAndPaper(check);
        measuresAndUses(check);
        digestOfEverything(check);
        check.end();
    }

    private static long over(long... numbers) {
        long d = 409;
        for (long number : numbers) {
            d = d * 31 + number;
        }
        return d;
    }

    private static void empty(Check check) {
        check.holds("A number d starts with 409; for each of the following numbers x, d becomes d * 31 + x, which"
                + " wraps around as a 64-bit integer: what count() tells, in its order; for each definition what"
                + " measure() tells, in its order, and how often it uses each one, in their order; the bytes of the"
                + " paper.");
        TypeLoom loom = new TypeLoom();
        check.same("a new object", loom.digest(), over(0, 0, 0, 0, 0));
        loom.feed(1, 2, 3, 4, 5);
        check.same("a tape", loom.digest(), over(0, 0, 0, 20, 0));
        loom.trim(1);
        check.same("a tape of one byte", loom.digest(), 11709322790L);
        check.same("without a change", loom.digest(), 11709322790L);
    }

    private static void countsAndPaper(Check check) {
        check.holds("A number d starts with 409; for each of the following numbers x, d becomes d * 31 + x, which"
                + " wraps around as a 64-bit integer: what count() tells, in its order; for each definition what"
                + " measure() tells, in its order, and how often it uses each one, in their order; the bytes of the"
                + " paper.");
        TypeLoom loom = check.compiled("type t = A | B | C; type u = D;");
        check.same("types alone", loom.digest(), over(2, 4, 0, 0, 0));
        loom.writeConstructor(0);
        check.same("with a paper", loom.digest(), over(2, 4, 0, 0, 1, 't'));
        Check.ask(loom, "1 = 2");
        check.same("with another paper", loom.digest(), over(2, 4, 0, 0, 4, 'b', 'o', 'o', 'l'));
        Check.compile(loom, "type");
        check.same("behind an error", loom.digest(), over(0, 0, 0, 0, 4, 'b', 'o', 'o', 'l'));
    }

    private static void measuresAndUses(Check check) {
        check.holds("A number d starts with 409; for each of the following numbers x, d becomes d * 31 + x, which"
                + " wraps around as a 64-bit integer: what count() tells, in its order; for each definition what"
                + " measure() tells, in its order, and how often it uses each one, in their order; the bytes of the"
                + " paper.");
        TypeLoom loom = check.compiled("def f = fun g x -> g (f g x);"
                + " def a = f (fun x -> f (fun y -> y) x + 1) 3;");
        check.same("two definitions", loom.digest(),
                over(0, 0, 2, 0, 0, 7, 2, 2, 1, 0, 1, 0, 0, 2, 0));
    }

    private static void digestOfEverything(Check check) {
        check.holds("A number d starts with 409; for each of the following numbers x, d becomes d * 31 + x, which"
                + " wraps around as a 64-bit integer: what count() tells, in its order; for each definition what"
                + " measure() tells, in its order, and how often it uses each one, in their order; the bytes of the"
                + " paper.");
        TypeLoom loom = check.compiled("type t 'a = A 'a; def id = fun x -> x; def two = (id 1, id A); def z = z;");
        loom.write(1);
        String paper = "int * ('a -> t 'a)";
        loom.feed(0, 0, 0, 0, 0);
        long d = over(1, 1, 3, 20, paper.length(), 3, 1, 1, 0, 0, 0, 6, 1, 1, 2, 0, 0, 1, 1, 0, 0, 0, 1);
        for (int k = 0; k < paper.length(); k++) {
            d = d * 31 + paper.charAt(k);
        }
        check.same("paper", Check.paper(loom), paper);
        check.same("everything", loom.digest(), d);
    }
}
