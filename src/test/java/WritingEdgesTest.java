/** Each sentence on writing that names an edge: promises 7 to 10, marks, brackets, 400 bytes. */
public final class WritingEdgesTest {
    private static final String MARKS = "A type is written: int, bool, marks as 'a, 'b and so on, in the order in which they"
            + " stand in it (what is unknown or general, and the marks of a form; behind 'z comes 'a again);";
    private static final String BRACKETS = "In ( and ) stand: a pair or function as the left or right part of a pair; a"
            + " function as the left part of a function; a pair, a function, or a name with parts as a part of a name.";
    private static final String TOO_LONG = "Throws `IllegalStateException` if there would be more than 400";
    private static final String AT = "Writes the type that was found in the end for the shortest expression of the program to"
            + " which a place belongs (all bytes from that of its first token to that of its last one belong to it),"
            + " likewise.";
    private static final String TYPES = "type u=U;type o 'a=O;type p 'a 'b=P;type q 'a 'b 'c=Q;";

    public static void main(String[] args) {
        Check check = new Check("WritingEdgesTest");
        marks(check);
        orderOfMarks(check);
        blanks(check);
        brackets(check);
        fourHundred(check);
        fourHundredOfEachPart(check);
        fourHundredOfAConstructor(check);
        fourHundredAtAPlace(check);
        fourHundredOfAMeeting(check);
        fourHundredOfAQuestion(check);
        definitionsToWrite(check);
        constructorsToWrite(check);
        inThePlace(check);
        placesOnThePaper(check);
        placesOfExpressions(check);
        shortest(check);
        noExpression(check);
        foundInTheEnd(check);
        check.end();
    }

    private static String letter(int number) {
        return "'" + (char) ('a' + number % 26);
    }

    /** A function from n different marks to the first, to the last, and to one more. */
    private static void marks(Check check) {
        check.holds(MARKS);
        for (int n : new int[] {1, 2, 25, 26, 27, 28, 51, 52, 53, 54, 59}) {
            StringBuilder due = new StringBuilder();
            for (int k = 0; k < n; k++) {
                due.append(letter(k)).append(" -> ");
            }
            check.typeOfLast("def x=fun a" + " y".repeat(n - 1) + "->a;", due + "'a");
            check.typeOfLast("def x=fun" + " y".repeat(n) + "->y;", due + letter(n - 1));
            check.typeOfLast("def x=fun" + " y".repeat(n) + "->1;", due + "int");
            check.answer(new TypeLoom(), "fun" + " y".repeat(n) + "->Nil", due + "list " + letter(n));
        }
    }

    private static void orderOfMarks(Check check) {
        check.holds(MARKS);
        check.typeOfLast("def x:'z->'y->'z=x;", "'a -> 'b -> 'a");
        check.typeOfLast("def x:'b->'a=x;", "'a -> 'b");
        check.typeOfLast("def x:('c*'b)*('a*'c)=x;", "('a * 'b) * ('c * 'a)");
        check.typeOfLast(TYPES + "def x:q 'c 'a 'b->q 'b 'a 'c=x;", "q 'a 'b 'c -> q 'c 'b 'a");
        check.typeOfLast("def x:(('d->'c)->'b)->'a=x;", "(('a -> 'b) -> 'c) -> 'd");
        check.typeOfLast("def x=fun a b->(b,a);", "'a -> 'b -> 'b * 'a");
        check.typeOfLast("def x=fun a b->(b=1,a);", "'a -> int -> bool * 'a");
        TypeLoom loom = check.compiled("type t 'y 'x=A 'x 'y|B 'y|C;");
        String[] due = {"'a -> 'b -> t 'b 'a", "'a -> t 'a 'b", "t 'a 'b"};
        for (int n = 0; n < due.length; n++) {
            loom.writeConstructor(n);
            check.same("constructor " + n, Check.paper(loom), due[n]);
        }
    }

    private static void blanks(Check check) {
        check.holds("a pair as a * b, a function as a -> b, a name as name a b; with blanks as here.");
        String[] forms = {"int*bool", "int->bool", "o int", "p int bool", "q int bool u", "u", "(int)", "o(o(o u))"};
        String[] due = {"int * bool", "int -> bool", "o int", "p int bool", "q int bool u", "u", "int", "o (o (o u))"};
        for (int n = 0; n < forms.length; n++) {
            check.typeOfLast(TYPES + "def x:" + forms[n] + "=x;", due[n]);
        }
        check.typeOfLast("type abcdefgh 'a=A;def x:abcdefgh int=A;", "abcdefgh int");
        check.typeOfLast("type t0a9z=A;def x=A;", "t0a9z");
        check.typeOfLast("type a=A;type b 'a=B 'a;def x=B A;", "b a");
    }

    /** Each kind of type in each place of each kind. */
    private static void brackets(Check check) {
        check.holds(BRACKETS);
        String[] parts = {"int", "bool", "'a", "u", "list int", "q int int u", "int * int", "int -> int"};
        for (int n = 0; n < parts.length; n++) {
            boolean name = n == 4 || n == 5;
            boolean pair = n == 6;
            boolean function = n == 7;
            String closed = "(" + parts[n] + ")";
            written(check, "# * int", parts[n], pair || function ? closed : parts[n]);
            written(check, "int * #", parts[n], pair || function ? closed : parts[n]);
            written(check, "# -> int", parts[n], function ? closed : parts[n]);
            written(check, "int -> #", parts[n], parts[n]);
            String part = pair || function || name ? closed : parts[n];
            written(check, "list #", parts[n], part);
            written(check, "p # int", parts[n], part);
            written(check, "p int #", parts[n], part);
            written(check, "q # int int", parts[n], part);
            written(check, "q int # int", parts[n], part);
            written(check, "q int int #", parts[n], part);
            written(check, "o (o #)", parts[n], part);
            written(check, "(# -> int) -> int", parts[n], function ? closed : parts[n]);
            written(check, "(int -> #) -> int", parts[n], parts[n]);
            written(check, "int -> # -> int", parts[n], function ? closed : parts[n]);
            written(check, "int * (int * #)", parts[n], pair || function ? closed : parts[n]);
            written(check, "int * (# -> int)", parts[n], function ? closed : parts[n]);
            written(check, "o (# * int)", parts[n], pair || function ? closed : parts[n]);
        }
    }

    private static void written(Check check, String text, String part, String due) {
        check.typeOfLast(TYPES + "def x:" + text.replace("#", "(" + part + ")") + "=x;", text.replace("#", due));
    }

    /** A form that is written with so many bytes, of which 7 to 9 stand behind the last arrow. */
    private static String form(int bytes) {
        String end = bytes % 8 == 7 ? "list 'a" : bytes % 8 == 0 ? "list int" : "list bool";
        return "bool->".repeat((bytes - end.length()) / 8) + end;
    }

    private static void fourHundred(Check check) {
        check.holds(TOO_LONG);
        int[] bytes = {399, 400, 401, 408};
        for (int size : bytes) {
            TypeLoom loom = check.compiled("type u=U;def z=(1,2);def x:" + form(size) + "=x;");
            loom.write(0);
            if (size <= 400) {
                check.same("write", loom.write(1), size);
                check.same("count(4)", loom.count(4), size);
                check.noSuch("byteAt behind the paper", () -> loom.byteAt(size));
            } else {
                check.tooLong("write of " + size, () -> loom.write(1));
                check.same("the paper stays", Check.paper(loom), "int * int");
            }
        }
    }

    /** Each kind of part stands eight times in a type of 399, 400 and 401 bytes. */
    private static void fourHundredOfEachPart(Check check) {
        check.holds(TOO_LONG);
        String[] parts = {"int", "bool", "'a", "u", "longname", "list 'a", "o bool", "p int u", "q u (o u) bool",
            "list (list int)", "int * bool", "int * (u * int)", "(u * int) * u", "(int -> int)", "(u -> u) * int",
            "u * (u -> 'a)", "o (u * u)", "o (u -> u)", "((u -> u) -> u)", "p (o u) (o u)"};
        for (String part : parts) {
            for (int size : new int[] {399, 400, 401}) {
                String form = filled((part + " -> ").repeat(8), size);
                TypeLoom loom = check.compiled(TYPES + "type longname=L;def z=1;def x:" + form + "=x;");
                loom.write(0);
                if (size <= 400) {
                    check.same("write of " + form, loom.write(1), size);
                    check.same("its paper", Check.paper(loom), form);
                } else {
                    check.tooLong("write of " + form, () -> loom.write(1));
                    check.same("the paper stays", loom.count(4), 3);
                }
            }
        }
    }

    /** Appends parts of a function to a text, up to so many bytes. */
    private static String filled(String text, int bytes) {
        String[] ends = {"u", "'a", "int", "bool", "u * u"};
        int rest = bytes - text.length();
        int longNames = (rest - 1) / 12;
        int shortNames = (rest - 12 * longNames - 1) / 5;
        int end = rest - 12 * longNames - 5 * shortNames;
        return text + "longname -> ".repeat(longNames) + "u -> ".repeat(shortNames) + ends[end - 1];
    }

    /** The constructor has the type ( form ) -> name. */
    private static void fourHundredOfAConstructor(Check check) {
        check.holds(TOO_LONG);
        String[] names = {"t", "tt", "abcdefg", "abcdefgh"};
        for (String name : names) {
            for (int size : new int[] {392, 393}) {
                TypeLoom loom = check.compiled("type u=U;type " + name + "=A (" + form(size) + ");");
                int all = size + 6 + name.length();
                loom.writeConstructor(0);
                if (all <= 400) {
                    check.same("writeConstructor", loom.writeConstructor(1), all);
                    check.same("count(4)", loom.count(4), all);
                    check.same("the last byte", loom.byteAt(all - 1), name.charAt(name.length() - 1));
                } else {
                    check.tooLong("writeConstructor of " + all, () -> loom.writeConstructor(1));
                    check.same("the paper stays", Check.paper(loom), "u");
                }
            }
        }
    }

    private static void fourHundredAtAPlace(Check check) {
        check.holds(TOO_LONG);
        for (int size : new int[] {399, 400, 401}) {
            String text = "type u=U;def x:" + form(size) + "=x;def y=fst (1,x);";
            TypeLoom loom = check.compiled(text);
            int place = text.indexOf("x);");
            loom.write(1);
            if (size <= 400) {
                check.same("writeAt", loom.writeAt(place), size);
                check.same("count(4)", loom.count(4), size);
            } else {
                check.tooLong("writeAt of " + size, () -> loom.writeAt(place));
                check.same("the paper stays", Check.paper(loom), "int");
            }
            check.tooLong("writeAt of more", () -> loom.writeAt(place - 1));
            check.same("writeAt of less", loom.writeAt(place - 2), 3);
        }
    }

    private static void fourHundredOfAMeeting(Check check) {
        check.holds(TOO_LONG);
        for (int size : new int[] {399, 400, 401}) {
            TypeLoom loom = check.compiled("type u=U;def x:" + form(size) + "=x;def y=y;def z=1;");
            loom.write(2);
            if (size <= 400) {
                check.same("meet", loom.meet(0, 1), size);
                check.same("meet", loom.meet(1, 0), size);
                check.same("meet", loom.meet(0, 0), size);
                check.same("count(4)", loom.count(4), size);
            } else {
                check.tooLong("meet of " + size, () -> loom.meet(0, 1));
                check.tooLong("meet of " + size, () -> loom.meet(1, 0));
                check.tooLong("meet of " + size, () -> loom.meet(0, 0));
                check.same("the paper stays", Check.paper(loom), "int");
            }
            check.same("meet without a type", loom.meet(0, 2), 0);
            check.same("the paper is empty then", loom.count(4), 0);
            check.isTrue("covers", loom.covers(1, 0));
            check.isTrue("covers itself", loom.covers(0, 0));
        }
    }

    private static void fourHundredOfAQuestion(Check check) {
        check.holds("the paper stays if there is an error, or more than 400 bytes would be needed.");
        for (int size : new int[] {399, 400, 401}) {
            TypeLoom loom = check.compiled("type u=U;def x:" + form(size) + "=x;def z=1;");
            loom.write(1);
            if (size <= 400) {
                check.same("ask", Check.ask(loom, "x"), 0);
                check.same("count(4)", loom.count(4), size);
                check.same("errorAt", loom.errorAt(), -1);
            } else {
                check.questionError(loom, 9, " \n @x");
                check.questionError(loom, 9, " @(x)");
                check.same("the paper stays", Check.paper(loom), "int");
            }
        }
        check.holds("Returns 0, or the error, 1, 2, 5, 6, 7 or 9 (9 at its first token, if the type would need more than 400"
                + " bytes).");
        TypeLoom loom = new TypeLoom();
        check.same("400 bytes", Check.ask(loom, "fun" + " x".repeat(66) + "->true"), 0);
        check.same("count(4)", loom.count(4), 400);
        check.questionError(loom, 9, "@fun" + " x".repeat(67) + "->1");
        check.same("399 bytes", Check.ask(loom, "fun" + " x".repeat(66) + "->1"), 0);
        check.same("count(4)", loom.count(4), 399);
        check.questionError(loom, 9, "\n@fun" + " x".repeat(65) + "->(true,true)");
        check.same("400 bytes", Check.ask(loom, "\nfun" + " x".repeat(65) + "->(1,true)"), 0);
        check.same("count(4)", loom.count(4), 400);
        check.questionError(loom, 9, "@fst (fun" + " x".repeat(66) + "->Nil,1)");
        check.same("the paper stays", loom.count(4), 400);
    }

    private static void definitionsToWrite(Check check) {
        check.holds("Writes the type of a definition on the paper, in the place of what was there.");
        TypeLoom loom = check.compiled("def a=1;def b=true;def c=(1,1);def d=fun x->x;");
        String[] due = {"int", "bool", "int * int", "'a -> 'a"};
        for (int def : new int[] {0, 3, 1, 2, 2, 0}) {
            check.same("write(" + def + ")", loom.write(def), due[def].length());
            check.same("its paper", Check.paper(loom), due[def]);
        }
        check.holds("Throws `IndexOutOfBoundsException` if there is no such definition");
        for (int def : new int[] {-1, 4, 5, 24, 25, -4, Integer.MAX_VALUE, Integer.MIN_VALUE}) {
            check.noSuch("write(" + def + ")", () -> loom.write(def));
            check.noSuch("write(" + def + ") without a program", () -> new TypeLoom().write(def));
        }
        check.same("the paper stays", Check.paper(loom), "int");
        TypeLoom types = check.compiled("type t=A|B;");
        check.noSuch("write without a definition", () -> types.write(0));
    }

    private static void constructorsToWrite(Check check) {
        check.holds("Writes the type of a constructor, likewise.");
        TypeLoom loom = check.compiled("type t=A|B int;def x=1;type v 'a=C 'a|D;");
        String[] due = {"t", "int -> t", "'a -> v 'a", "v 'a"};
        for (int n : new int[] {0, 3, 1, 2, 2, 0}) {
            check.same("writeConstructor(" + n + ")", loom.writeConstructor(n), due[n].length());
            check.same("its paper", Check.paper(loom), due[n]);
        }
        check.holds("Throws `IndexOutOfBoundsException` if there is no such constructor");
        for (int n : new int[] {-1, -2, -3, 4, 5, 6, 24, 26, Integer.MAX_VALUE, Integer.MIN_VALUE}) {
            check.noSuch("writeConstructor(" + n + ")", () -> loom.writeConstructor(n));
            check.noSuch("writeConstructor(" + n + ") without a program", () -> new TypeLoom().writeConstructor(n));
        }
        check.same("the paper stays", Check.paper(loom), "t");
        TypeLoom definitions = check.compiled("def x=1;");
        check.noSuch("writeConstructor of Nil", () -> definitions.writeConstructor(0));
        check.noSuch("writeConstructor of Cons", () -> definitions.writeConstructor(1));
    }

    private static void inThePlace(Check check) {
        check.holds("Writes the type of a definition on the paper, in the place of what was there.");
        TypeLoom loom = check.compiled("type t=A;def a=fun x y z->(x,(y,z));def b=1;def c=true;");
        check.same("a long one", loom.write(0), "'a -> 'b -> 'c -> 'a * ('b * 'c)".length());
        check.same("a short one", loom.write(1), 3);
        check.noSuch("byteAt behind it", () -> loom.byteAt(3));
        check.same("a constructor", loom.writeConstructor(0), 1);
        check.noSuch("byteAt behind it", () -> loom.byteAt(1));
        check.same("at a place", loom.writeAt(16), 32);
        check.same("a meeting", loom.meet(1, 2), 0);
        check.noSuch("byteAt of an empty paper", () -> loom.byteAt(0));
        check.same("marks begin with 'a again", loom.write(0), 32);
        check.same("the first", loom.byteAt(1), 'a');
        check.same("ask", Check.ask(loom, "c"), 0);
        check.same("its paper", Check.paper(loom), "bool");
    }

    private static void placesOnThePaper(Check check) {
        check.holds("Throws `IndexOutOfBoundsException` if there is no such place");
        TypeLoom loom = check.compiled("type t=A;def x=A;def y=fun a->a;");
        for (int k : new int[] {0, 1, -1, 399, 400, Integer.MAX_VALUE, Integer.MIN_VALUE}) {
            check.noSuch("byteAt(" + k + ") of an empty paper", () -> loom.byteAt(k));
        }
        loom.write(0);
        check.same("byteAt(0)", loom.byteAt(0), 't');
        check.noSuch("byteAt(1)", () -> loom.byteAt(1));
        check.noSuch("byteAt(-1)", () -> loom.byteAt(-1));
        loom.write(1);
        check.same("byteAt(0)", loom.byteAt(0), '\'');
        check.same("byteAt(7)", loom.byteAt(7), 'a');
        for (int k : new int[] {8, 9, 400, -1, -8, Integer.MAX_VALUE, Integer.MIN_VALUE}) {
            check.noSuch("byteAt(" + k + ")", () -> loom.byteAt(k));
        }
        check.holds("Returns the byte there.");
        TypeLoom full = check.compiled("type u=U;def x:" + form(400) + "=x;");
        full.write(0);
        String due = form(400).replace("->", " -> ");
        for (int k = 0; k < 400; k++) {
            check.same("byteAt(" + k + ")", full.byteAt(k), due.charAt(k));
        }
        check.noSuch("byteAt(400)", () -> full.byteAt(400));
        check.noSuch("byteAt(-1)", () -> full.byteAt(-1));
    }

    /** Below each byte stands the letter of the type that is due there, or a dot. */
    private static void places(Check check, String text, String letters, String... types) {
        for (int place = -1; place <= text.length(); place++) {
            TypeLoom loom = check.compiled(text);
            char letter = place < 0 || place >= letters.length() ? '.' : letters.charAt(place);
            String what = "writeAt " + place + " of " + text;
            int here = place;
            if (letter == '.') {
                check.noSuch(what, () -> loom.writeAt(here));
            } else {
                check.same(what, loom.writeAt(place), types[letter - 'A'].length());
                check.same(what, Check.paper(loom), types[letter - 'A']);
            }
        }
    }

    private static void placesOfExpressions(Check check) {
        check.holds(AT);
        places(check, "def x=1;", "......A.", "int");
        places(check, "def x = 12 ;", "........AA..", "int");
        places(check, "def x =\n( true )\n;\n", "........AABBBBAA...", "bool", "bool");
        places(check, "def x=1;def abc=Nil; ", "......A.........BBB..", "int", "list 'a");
        places(check, "def x:int->int=fun y->y;", "...............AAAAAAAB.", "int -> int", "int");
        places(check, "type t=A int|B;def x=A 1;type v=C;", ".....................BAC..........", "t", "int -> t", "int");
        places(check, "def x=let ab=(1,2) in fst ab;", "......AAAAAAABABABAAAACCCABB.",
                "int", "int * int", "int * int -> int");
    }

    private static void shortest(Check check) {
        check.holds(AT);
        places(check, "def x=fun f->f 1 true;", "......AAAAAAABCDEFFFF.",
                "(int -> bool -> 'a) -> 'a", "int -> bool -> 'a", "bool -> 'a", "int", "'a", "bool");
        places(check, "def x=fst (1,true)+2*3;", "......AAABCBCDDDDCBBBB.", "int * bool -> int", "int", "int * bool", "bool");
        places(check, "def x=if 1<2 then(1)else 3*4;", "......AAAABAAAAAAAAAAAAAAAAA.", "int", "bool");
        places(check, "def x=case Nil of Nil->1|Cons ab c->ab end;", "......BBBBBAAABBBBBBBBBBBBBBBBBBBBBBBBBBBB.",
                "list int", "int");
        places(check, "def x=fun ab cd->ab;", "......AAAAAAAAAAABB.", "'a -> 'b -> 'a", "'a");
        places(check, "def x=(((1)));", "......AAAAAAA.", "int");
        places(check, "def x=(1,(2,true));", "......ABACBCDDDDCA.", "int * (int * bool)", "int", "int * bool", "bool");
    }

    private static void noExpression(Check check) {
        check.holds("Throws `IndexOutOfBoundsException` if no expression is there, or there is no program");
        TypeLoom loom = check.compiled("type t=A;def x:t=A;");
        for (int place = -3; place < 30; place++) {
            int here = place;
            if (place == 17) {
                check.same("writeAt", loom.writeAt(place), 1);
            } else {
                check.noSuch("writeAt " + place, () -> loom.writeAt(here));
            }
        }
        for (int place : new int[] {1199, 1200, 1201, Integer.MAX_VALUE, Integer.MIN_VALUE, Integer.MIN_VALUE + 17}) {
            check.noSuch("writeAt " + place, () -> loom.writeAt(place));
            check.noSuch("writeAt without a program " + place, () -> new TypeLoom().writeAt(place));
        }
        check.same("the paper stays", Check.paper(loom), "t");
        TypeLoom types = check.compiled("type t=A int;");
        check.noSuch("writeAt without a definition", () -> types.writeAt(7));
        Check.compile(loom, "def x=true;def y=z;");
        check.noSuch("writeAt behind an error", () -> loom.writeAt(6));
        Check.compile(loom, "def x=true");
        check.noSuch("writeAt behind an error", () -> loom.writeAt(6));
        check.same("ask", Check.ask(loom, "def x=1"), 1);
        check.same("ask", Check.ask(loom, "1+1+1+1"), 0);
        check.noSuch("writeAt behind ask", () -> loom.writeAt(0));
        check.noSuch("writeAt behind ask", () -> loom.writeAt(6));
        String last = "def x=" + " ".repeat(1192) + "1;";
        TypeLoom full = check.compiled(last);
        check.same("writeAt(1198)", full.writeAt(1198), 3);
        check.noSuch("writeAt(1199)", () -> full.writeAt(1199));
        check.noSuch("writeAt(1197)", () -> full.writeAt(1197));
        check.noSuch("writeAt(1200)", () -> full.writeAt(1200));
    }

    private static void foundInTheEnd(Check check) {
        check.holds(AT);
        places(check, "def x=fun y->(y,y+1);", "......AAAAAAABCBCCCB.", "int -> int * int", "int * int", "int");
        places(check, "def x:int->int=fun y->y;", "...............AAAAAAAB.", "int -> int", "int");
        places(check, "def x=fun y->x y+x 1;", "......AAAAAAAABBBABB.", "int -> int", "int");
        places(check, "def i=fun y->y;def z=i i 1;", "......AAAAAAAB.......CDDEE.", "'a -> 'a", "'a",
                "(int -> int) -> int -> int", "int -> int", "int");
        places(check, "def x=let f=fun y->y in(f 1,f Nil);", "......AAAAAABBBBBBBCAAADEFFDGHHHHD.", "int * list 'a",
                "'a -> 'a", "'a", "int * list 'a", "int -> int", "int", "list 'a -> list 'a", "list 'a");
        places(check, "def x=Cons 1 Nil;", "......AAAABCDEEE.", "int -> list int -> list int",
                "list int -> list int", "int", "list int", "list int");
    }
}
