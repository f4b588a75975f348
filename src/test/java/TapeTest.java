/** Promises 1 to 3: a new object, feed, trim; and what compile and ask leave of the tape. */
public final class TapeTest {
    public static void main(String[] args) {
        Check check = new Check("TapeTest");
        newObject(check);
        feedAppends(check);
        feedRefuses(check);
        trimShortens(check);
        bytesStandInOrder(check);
        tapeIsEmptyBehind(check);
        check.end();
    }

    private static void newObject(Check check) {
        check.holds("Creates a checker without a program, with an empty tape and an empty paper.");
        TypeLoom loom = new TypeLoom();
        for (int what = 0; what <= 4; what++) {
            check.same("count of a new object " + what, loom.count(what), 0);
        }
        check.same("errorAt of a new object", loom.errorAt(), -1);
        check.throwsThis("write of a new object", IndexOutOfBoundsException.class, () -> loom.write(0));
        check.throwsThis("writeConstructor of a new object", IndexOutOfBoundsException.class,
                () -> loom.writeConstructor(0));
        check.throwsThis("writeAt of a new object", IndexOutOfBoundsException.class, () -> loom.writeAt(0));
        check.throwsThis("byteAt of a new object", IndexOutOfBoundsException.class, () -> loom.byteAt(0));
        check.same("digest of a new object", loom.digest(), 409L * 31 * 31 * 31 * 31 * 31);
        check.isTrue("meanParts of a new object", loom.meanParts() == 0.0);
    }

    private static void feedAppends(Check check) {
        check.holds("Appends twenty bytes to the tape: the four bytes of each number, the highest one first.");
        TypeLoom loom = new TypeLoom();
        check.same("first feed", loom.feed(0, 0, 0, 0, 0), 20);
        check.same("second feed", loom.feed(-1, Integer.MIN_VALUE, Integer.MAX_VALUE, 1, 2), 40);
        check.same("bytes of the tape", loom.count(3), 40);
        check.same("bytes of the paper", loom.count(4), 0);
    }

    private static void feedRefuses(Check check) {
        check.holds("Throws `IllegalStateException` if there would be more than 1200");
        TypeLoom loom = new TypeLoom();
        for (int n = 1; n <= 60; n++) {
            check.same("feed " + n, loom.feed(0x20202020, 0x20202020, 0x20202020, 0x20202020, 0x20202020), 20 * n);
        }
        check.throwsThis("feed 61", IllegalStateException.class, () -> loom.feed(1, 2, 3, 4, 5));
        check.same("bytes behind a refused feed", loom.count(3), 1200);
        loom.trim(1181);
        check.throwsThis("feed onto 1181", IllegalStateException.class, () -> loom.feed(1, 2, 3, 4, 5));
        check.same("bytes behind it", loom.count(3), 1181);
        loom.trim(1180);
        check.same("feed onto 1180", loom.feed(0x20202020, 0x20202020, 0x20202020, 0x20202020, 0x20202020), 1200);
        check.same("a tape of blanks", loom.ask(), 1);
        check.same("its error", loom.errorAt(), 1200);
        check.same("feed behind it", loom.feed(1, 2, 3, 4, 5), 20);
    }

    private static void trimShortens(Check check) {
        check.holds("Throws `IllegalArgumentException` if n is not 0 to the number of bytes of the tape");
        TypeLoom loom = new TypeLoom();
        check.same("trim of nothing", loom.trim(0), 0);
        check.throwsThis("trim(1) of nothing", IllegalArgumentException.class, () -> loom.trim(1));
        check.throwsThis("trim(-1)", IllegalArgumentException.class, () -> loom.trim(-1));
        loom.feed(1, 2, 3, 4, 5);
        check.throwsThis("trim(21)", IllegalArgumentException.class, () -> loom.trim(21));
        check.throwsThis("trim(MIN)", IllegalArgumentException.class, () -> loom.trim(Integer.MIN_VALUE));
        check.throwsThis("trim(MAX)", IllegalArgumentException.class, () -> loom.trim(Integer.MAX_VALUE));
        check.same("bytes behind refused trims", loom.count(3), 20);
        check.same("trim(20)", loom.trim(20), 20);
        check.same("trim(7)", loom.trim(7), 7);
        check.same("bytes behind it", loom.count(3), 7);
        check.throwsThis("trim(8)", IllegalArgumentException.class, () -> loom.trim(8));
        check.same("feed behind it", loom.feed(1, 2, 3, 4, 5), 27);
    }

    private static void bytesStandInOrder(Check check) {
        check.holds("Appends twenty bytes to the tape: the four bytes of each number, the highest one first.");
        TypeLoom loom = new TypeLoom();
        loom.feed(0x66756e20, 0x61206220, 0x6320642d, 0x3e286120, 0x312c6220); // fun a b c d->(a 1,b
        loom.feed(0x322c6329, 0x20202020, 0x20202020, 0x20202020, 0x20202020); // 2,c)
        check.same("an error in the text", loom.ask(), 1);
        check.same("its place", loom.errorAt(), 21);
        loom.feed(0x28312c74, 0x72756529, 0xffffffff, 0, 0);
        loom.trim(8);
        check.same("a text of 8 bytes", loom.ask(), 0);
        check.same("its answer", Check.paper(loom), "int * bool");
        loom.feed(0x28312c74, 0x72756529, 0xffffffff, 0, 0);
        check.same("a text with a byte 255", loom.ask(), 1);
        check.same("the place of byte 255", loom.errorAt(), 8);
    }

    private static void tapeIsEmptyBehind(Check check) {
        check.holds("The tape is a row of at most 1200 bytes, at first empty, which feed and trim fill; compile and"
                + " ask read it, and it is empty behind each of these.");
        TypeLoom loom = new TypeLoom();
        Check.put(loom, "def x = 1;");
        loom.compile();
        check.same("tape behind compile", loom.count(3), 0);
        Check.put(loom, "def x = ;");
        loom.compile();
        check.same("tape behind an error", loom.count(3), 0);
        Check.put(loom, "1");
        loom.ask();
        check.same("tape behind ask", loom.count(3), 0);
        Check.put(loom, "y");
        loom.ask();
        check.same("tape behind an error of ask", loom.count(3), 0);
    }
}
