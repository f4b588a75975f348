/** Each sentence on the tape that names an edge: promises 1 to 3, and how long an object is used. */
public final class TapeEdgesTest {
    private static final int BLANKS = 0x20202020;
    private static final String FULL = "The tape is a row of at most 1200 bytes, at first empty, which feed and trim fill;"
            + " compile and ask read it, and it is empty behind each of these.";

    public static void main(String[] args) {
        Check check = new Check("TapeEdgesTest");
        newObject(check);
        bytesOfTheTape(check);
        fullTape(check);
        emptyBehindCompile(check);
        emptyBehindAsk(check);
        placesOfTheBytes(check);
        allBytes(check);
        greatestNumbers(check);
        feedRefuses(check);
        trimTakes(check);
        trimKeepsTheFirst(check);
        callsOfAnObject(check);
        check.end();
    }

    private static void newObject(Check check) {
        check.holds("Creates a checker without a program, with an empty tape and an empty paper.");
        for (int what = 0; what <= 4; what++) {
            check.same("count(" + what + ")", new TypeLoom().count(what), 0);
        }
        check.same("errorAt", new TypeLoom().errorAt(), -1);
        check.same("trim(0)", new TypeLoom().trim(0), 0);
        check.throwsThis("trim(1)", IllegalArgumentException.class, () -> new TypeLoom().trim(1));
        check.noSuch("write(0)", () -> new TypeLoom().write(0));
        check.noSuch("writeConstructor(0)", () -> new TypeLoom().writeConstructor(0));
        check.noSuch("writeAt(0)", () -> new TypeLoom().writeAt(0));
        check.noSuch("byteAt(0)", () -> new TypeLoom().byteAt(0));
        check.noSuch("measure(0, 0)", () -> new TypeLoom().measure(0, 0));
        check.noSuch("uses(0, 0)", () -> new TypeLoom().uses(0, 0));
        check.noSuch("covers(0, 0)", () -> new TypeLoom().covers(0, 0));
        check.noSuch("meet(0, 0)", () -> new TypeLoom().meet(0, 0));
        check.isTrue("meanParts", new TypeLoom().meanParts() == 0.0);
        check.same("compile", new TypeLoom().compile(), 1);
        check.same("ask", new TypeLoom().ask(), 1);
        check.same("digest", new TypeLoom().digest(), 409L * 31 * 31 * 31 * 31 * 31);
        TypeLoom one = new TypeLoom();
        TypeLoom other = new TypeLoom();
        Check.compile(one, "def x = 1;");
        check.same("definitions of another object", other.count(2), 0);
        check.noSuch("write of another object", () -> other.write(0));
    }

    private static int feedBlanks(TypeLoom loom) {
        return loom.feed(BLANKS, BLANKS, BLANKS, BLANKS, BLANKS);
    }

    private static TypeLoom withTape(int bytes) {
        TypeLoom loom = new TypeLoom();
        for (int n = 0; n < bytes; n += 20) {
            feedBlanks(loom);
        }
        loom.trim(bytes);
        return loom;
    }

    private static void bytesOfTheTape(Check check) {
        check.holds("Returns the number of bytes of the tape.");
        TypeLoom loom = new TypeLoom();
        for (int bytes = 20; bytes <= 1200; bytes += 20) {
            check.same("feed", feedBlanks(loom), bytes);
            check.same("count(3)", loom.count(3), bytes);
        }
        check.same("feed onto 1", feedBlanks(withTape(1)), 21);
        check.same("feed onto 19", feedBlanks(withTape(19)), 39);
        check.same("feed onto 1179", feedBlanks(withTape(1179)), 1199);
        check.same("feed onto 1180", feedBlanks(withTape(1180)), 1200);
        check.holds("Throws `IllegalStateException` if there would be more than 1200");
        for (int bytes = 1181; bytes <= 1200; bytes++) {
            TypeLoom full = withTape(bytes);
            check.throwsThis("feed onto " + bytes, IllegalStateException.class, () -> feedBlanks(full));
            check.same("count(3) behind it", full.count(3), bytes);
        }
    }

    private static void fullTape(Check check) {
        check.holds(FULL);
        String blanks = " ".repeat(1200);
        String last = ("def x = 1" + blanks).substring(0, 1199);
        check.same("a program of 1200 bytes", check.compiled(last + ";").count(2), 1);
        check.same("a program of 1199 bytes", check.compiled(last.substring(0, 1198) + ";").count(2), 1);
        check.programError(1, last + "@)");
        check.programError(1, last + " @");
        check.programError(1, last.substring(0, 1198) + "@");
        check.programError(1, blanks + "@");
        TypeLoom loom = new TypeLoom();
        check.answer(loom, "1" + blanks.substring(1), "int");
        check.answer(loom, blanks.substring(1) + "1", "int");
        check.answer(loom, blanks.substring(2) + "1", "int");
        check.questionError(loom, 2, blanks.substring(1) + "@x");
        check.questionError(loom, 1, blanks + "@");
        check.questionError(loom, 1, blanks.substring(1) + "@");
    }

    private static void emptyBehindCompile(Check check) {
        check.holds(FULL);
        TypeLoom loom = new TypeLoom();
        String[] programs = {"def x = 1;", "", "def", "def x = y;", "def x = 1; def x = 1;", "type t 'a 'b 'c 'd = A;",
            "def x = 1 2;", "def x : list = 1;", "def x = case Nil of Nil -> 1 | Nil -> 1 end;", "def x : 'a = 1;",
            "def x = fun" + " x".repeat(60) + " -> 1;"};
        int[] answers = {0, 1, 1, 2, 3, 4, 5, 6, 7, 8, 9};
        for (int n = 0; n < programs.length; n++) {
            check.same("compile of " + programs[n], Check.compile(loom, programs[n]), answers[n]);
            check.same("count(3) behind it", loom.count(3), 0);
            check.throwsThis("trim(1) behind it", IllegalArgumentException.class, () -> loom.trim(1));
        }
        check.same("compile of an empty tape", loom.compile(), 1);
        check.same("its place", loom.errorAt(), 0);
        check.same("compile of an empty tape again", loom.compile(), 1);
    }

    private static void emptyBehindAsk(Check check) {
        check.holds(FULL);
        TypeLoom loom = new TypeLoom();
        String[] questions = {"1", "", ")", "x", "1 2", "case Nil of Cons -> 1 end",
            "case Nil of Nil -> 1 | Nil -> 1 end", "fun" + " x".repeat(90) + " -> 1"};
        int[] answers = {0, 1, 1, 2, 5, 6, 7, 9};
        for (int n = 0; n < questions.length; n++) {
            check.same("ask of " + questions[n], Check.ask(loom, questions[n]), answers[n]);
            check.same("count(3) behind it", loom.count(3), 0);
            check.throwsThis("trim(1) behind it", IllegalArgumentException.class, () -> loom.trim(1));
        }
        check.same("ask of an empty tape", loom.ask(), 1);
        check.same("its place", loom.errorAt(), 0);
        check.same("compile behind ask", loom.compile(), 1);
        check.same("feed behind it", feedBlanks(loom), 20);
    }

    /** An error tells where each of the twenty bytes stands. */
    private static void placesOfTheBytes(Check check) {
        check.holds("Appends twenty bytes to the tape: the four bytes of each number, the highest one first.");
        for (int ahead = 0; ahead <= 1180; ahead += 590) {
            for (int place = 0; place < 20; place++) {
                int[] numbers = {BLANKS, BLANKS, BLANKS, BLANKS, BLANKS};
                int shift = 24 - 8 * (place % 4);
                numbers[place / 4] = BLANKS & ~(255 << shift) | '#' << shift;
                TypeLoom loom = withTape(ahead);
                check.same("feed", loom.feed(numbers[0], numbers[1], numbers[2], numbers[3], numbers[4]), ahead + 20);
                check.same("ask of a wrong byte", loom.ask(), 1);
                check.same("the place of byte " + place + " behind " + ahead, loom.errorAt(), ahead + place);
            }
        }
        TypeLoom loom = new TypeLoom();
        loom.feed(0x66756e20, 0x61626364, 0x65666768, 0x202d3e20, 0x61626364); // fun abcdefgh -> abcd
        loom.feed(0x65666768, 0x2b393837, 0x362a2831, 0x30202d20, 0x37292020); // efgh+9876*(10 - 7)
        check.same("ask", loom.ask(), 0);
        check.same("its answer", Check.paper(loom), "int -> int");
    }

    /** What a byte between a number and the end of the tape makes of it, for each byte. */
    private static void allBytes(Check check) {
        check.holds("Appends twenty bytes to the tape: the four bytes of each number, the highest one first.");
        for (int b = 0; b < 256; b++) {
            TypeLoom loom = new TypeLoom();
            loom.feed('1' << 24 | ' ' << 16 | b << 8 | '#', -1, 0, -1, 0);
            loom.trim(3);
            int error = b == ' ' || b == '\n' ? 0 : isDigit(b) ? 5 : isSmall(b) || isGreat(b) ? 2 : 1;
            boolean goesOn = b == '(' || b == '+' || b == '-' || b == '*' || b == '<' || b == '=';
            check.same("ask with byte " + b, loom.ask(), error);
            check.same("errorAt with byte " + b, loom.errorAt(), error == 0 ? -1 : goesOn ? 3 : 2);
        }
    }

    private static boolean isDigit(int b) {
        return b >= '0' && b <= '9';
    }

    private static boolean isSmall(int b) {
        return b >= 'a' && b <= 'z';
    }

    private static boolean isGreat(int b) {
        return b >= 'A' && b <= 'Z';
    }

    private static void greatestNumbers(Check check) {
        check.holds("Appends twenty bytes to the tape: the four bytes of each number, the highest one first.");
        int[] greatest = {Integer.MIN_VALUE, Integer.MAX_VALUE, -1, 0, 1, Integer.MIN_VALUE + 1};
        for (int number : greatest) {
            for (int place = 0; place < 5; place++) {
                TypeLoom loom = new TypeLoom();
                check.same("feed of " + number, loom.feed(place == 0 ? number : BLANKS, place == 1 ? number : BLANKS,
                        place == 2 ? number : BLANKS, place == 3 ? number : BLANKS, place == 4 ? number : BLANKS), 20);
                check.same("ask behind it", loom.ask(), 1);
                check.same("the place of " + number, loom.errorAt(), 4 * place);
            }
        }
        TypeLoom loom = new TypeLoom();
        loom.feed(0x20202031, Integer.MIN_VALUE, Integer.MAX_VALUE, Integer.MIN_VALUE, Integer.MAX_VALUE);
        loom.trim(4);
        check.same("the numbers behind are gone", loom.ask(), 0);
    }

    private static void feedRefuses(Check check) {
        check.holds("A method that throws an exception changes nothing.");
        TypeLoom loom = withTape(1190);
        check.throwsThis("feed onto 1190", IllegalStateException.class, () -> loom.feed(-1, -1, -1, -1, -1));
        check.throwsThis("feed onto 1190", IllegalStateException.class, () -> loom.feed(-1, -1, -1, -1, -1));
        check.same("count(3)", loom.count(3), 1190);
        check.throwsThis("trim(1191)", IllegalArgumentException.class, () -> loom.trim(1191));
        loom.trim(1180);
        loom.feed(BLANKS, BLANKS, 0x20203120, BLANKS, BLANKS);
        check.same("ask", loom.ask(), 0);
        check.same("its answer", Check.paper(loom), "int");
    }

    private static void trimTakes(Check check) {
        int[] sizes = {0, 1, 2, 19, 20, 21, 1199, 1200};
        for (int size : sizes) {
            check.holds("Throws `IllegalArgumentException` if n is not 0 to the number of bytes of the tape");
            TypeLoom loom = withTape(size);
            int[] wrong = {size + 1, size + 20, -1, -size - 1, 1201, Integer.MAX_VALUE, Integer.MIN_VALUE};
            for (int n : wrong) {
                check.throwsThis("trim(" + n + ") of " + size, IllegalArgumentException.class, () -> loom.trim(n));
                check.same("count(3) behind it", loom.count(3), size);
            }
            check.holds("Returns n.");
            int[] right = {size, Math.max(0, size - 1), size / 2, 0, 0};
            for (int n : right) {
                check.same("trim(" + n + ") of " + size, loom.trim(n), n);
                check.same("count(3) behind it", loom.count(3), n);
            }
        }
    }

    private static void trimKeepsTheFirst(Check check) {
        check.holds("Shortens the tape to its first bytes.");
        for (int n = 0; n <= 20; n++) {
            TypeLoom loom = new TypeLoom();
            Check.put(loom, "1+1+1+1+1+1+1+1+1+1+");
            check.same("trim", loom.trim(n), n);
            check.same("ask of the first " + n, loom.ask(), n % 2 == 1 ? 0 : 1);
            check.same("its place", loom.errorAt(), n % 2 == 1 ? -1 : n);
        }
        TypeLoom loom = new TypeLoom();
        Check.put(loom, "def abc = 1; def d = 2;");
        loom.trim(7);
        Check.put(loom, "d=3;");
        check.same("compile", loom.compile(), 0);
        check.same("definitions", loom.count(2), 1);
        check.answer(loom, "abcd", "int");
        Check.put(loom, "false####");
        loom.trim(5);
        loom.trim(5);
        check.same("ask", loom.ask(), 0);
        check.same("its answer", Check.paper(loom), "bool");
    }

    /** The 512th call is answered as the first ones are. */
    private static void callsOfAnObject(Check check) {
        check.holds("An object is used for at most 512 calls after it has been made; what later calls answer is free.");
        TypeLoom loom = new TypeLoom();
        int calls = 0;
        for (; calls + 8 <= 508; calls += 8) {
            loom.feed(0x64656620, 0x6964203d, 0x2066756e, 0x2078202d, 0x3e20783b); // def id = fun x -> x;
            check.same("compile", loom.compile(), 0);
            loom.feed(0x2869642c, 0x28696420, 0x312c6964, 0x20747275, 0x65292920); // (id,(id 1,id true))
            check.same("ask", loom.ask(), 0);
            check.same("count(4)", loom.count(4), 25);
            check.same("meet", loom.meet(0, 0), 8);
            check.same("byteAt(7)", loom.byteAt(7), 'a');
            check.same("writeAt(9)", loom.writeAt(9), 8);
        }
        for (; calls < 508; calls++) {
            check.isTrue("covers", loom.covers(0, 0));
        }
        loom.feed(0x2869642c, 0x69642920, BLANKS, BLANKS, BLANKS); // (id,id)
        check.same("call 510", loom.ask(), 0);
        check.same("call 511", loom.count(4), 23);
        check.same("call 512", loom.byteAt(22), ')');
    }
}
