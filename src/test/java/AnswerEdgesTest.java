/** Each sentence of promises 4 to 6 and 11 to 17 that names an edge. */
public final class AnswerEdgesTest {
    private static final String NO_DEFINITION = "Throws `IndexOutOfBoundsException` if there is no such definition";
    private static final String DIGEST = "A number d starts with 409; for each of the following numbers x, d becomes d * 31 +"
            + " x, which wraps around as a 64-bit integer: what count() tells, in its order; for each definition what"
            + " measure() tells, in its order, and how often it uses each one, in their order; the bytes of the paper.";
    private static final String ASK = "Reads the tape as an expression, in which all of the program is known (without a"
            + " program what is known at the beginning alone), and writes its type;";
    private static final int[] FAR = {Integer.MIN_VALUE, Integer.MIN_VALUE + 1, -1000, -25, -1, 24, 25, 1000,
        Integer.MAX_VALUE - 1, Integer.MAX_VALUE};

    public static void main(String[] args) {
        Check check = new Check("AnswerEdgesTest");
        everyError(check);
        goneInAnyCase(check);
        places(check);
        placesFromZero(check);
        counts(check);
        fullProgram(check);
        measures(check);
        measureRefuses(check);
        orders(check);
        uses(check);
        usesRefuse(check);
        covers(check);
        coversRefuses(check);
        meets(check);
        meetRefuses(check);
        asks(check);
        asksOfTheProgram(check);
        means(check);
        digests(check);
        digestsOfFullObjects(check);
        check.end();
    }

    private static void everyError(Check check) {
        check.holds("Returns 0, or the error, 1 to 9.");
        check.compiled("def x=1;");
        check.programError(1, "def x=@;");
        check.programError(2, "def x=@y;");
        check.programError(3, "def x=1;def @x=1;");
        check.programError(4, "type t 'a 'b 'c @'d=A;");
        check.programError(5, "def x=1 @1;");
        check.programError(6, "def x:@list=Nil;");
        check.programError(7, "def x=case Nil of Nil->1|@Nil->1 end;");
        check.programError(8, "def x:@bool=1;");
        check.programError(9, "def @x=fun" + " y".repeat(60) + "->1;");
    }

    private static void goneInAnyCase(Check check) {
        check.holds("Compiles the tape as a program. The program that was there is gone in any case.");
        String[] texts = {"", "def", "def y=z;", "def x=1;def x=2;", "type u=B;", "def y=1 2;"};
        for (String text : texts) {
            TypeLoom loom = check.compiled("type t=A;def x=1;");
            int error = Check.compile(loom, text);
            check.same("types behind " + text, loom.count(0), text.equals("type u=B;") ? 1 : 0);
            check.same("definitions behind " + text, loom.count(2), 0);
            check.same("the error of " + text, error == 0 ? 0 : 1, text.equals("type u=B;") ? 0 : 1);
            check.noSuch("write behind " + text, () -> loom.write(0));
            check.noSuch("writeAt behind " + text, () -> loom.writeAt(15));
            check.noSuch("covers behind " + text, () -> loom.covers(0, 0));
            check.questionError(loom, 2, "@x");
            check.questionError(loom, 2, "@A");
            check.isTrue("meanParts behind " + text, loom.meanParts() == 0.0);
            check.same("the same program", Check.compile(loom, "type t=A;def x=1;"), 0);
        }
    }

    private static void places(Check check) {
        check.holds("Returns the position of the error of the latest compile or ask; -1 if it had none, or there was none.");
        TypeLoom loom = new TypeLoom();
        check.same("errorAt of a new object", loom.errorAt(), -1);
        check.same("compile", loom.compile(), 1);
        check.same("errorAt of an empty tape", loom.errorAt(), 0);
        check.same("compile", Check.compile(loom, "def x=y;"), 2);
        check.same("errorAt", loom.errorAt(), 6);
        check.same("errorAt again", loom.errorAt(), 6);
        check.same("compile", Check.compile(loom, "def x=1;"), 0);
        check.same("errorAt", loom.errorAt(), -1);
        check.same("ask", Check.ask(loom, "x  true"), 5);
        check.same("errorAt", loom.errorAt(), 3);
        loom.feed(0, 0, 0, 0, 0);
        loom.trim(0);
        loom.write(0);
        check.same("errorAt behind other calls", loom.errorAt(), 3);
        check.noSuch("write", () -> loom.write(1));
        check.same("errorAt behind a refused call", loom.errorAt(), 3);
        check.same("ask", Check.ask(loom, "x"), 0);
        check.same("errorAt", loom.errorAt(), -1);
        check.same("compile", Check.compile(loom, " ".repeat(1200)), 1);
        check.same("errorAt of a full tape", loom.errorAt(), 1200);
        check.same("ask", Check.ask(loom, " ".repeat(1199) + "1"), 0);
        check.same("errorAt", loom.errorAt(), -1);
        check.same("ask", Check.ask(loom, " ".repeat(1199) + "x"), 2);
        check.same("errorAt", loom.errorAt(), 1199);
    }

    private static void placesFromZero(Check check) {
        check.holds("Positions are counted from 0, in bytes.");
        check.programError(1, "@x=1;");
        check.programError(1, " @x=1;");
        check.programError(2, "def x=@y;");
        check.questionError(new TypeLoom(), 2, "@y");
        check.questionError(new TypeLoom(), 2, "\n\n@y");
        TypeLoom loom = check.compiled("def x=1;");
        check.noSuch("writeAt(5)", () -> loom.writeAt(5));
        check.same("writeAt(6)", loom.writeAt(6), 3);
        check.noSuch("writeAt(7)", () -> loom.writeAt(7));
        check.same("byteAt(0)", loom.byteAt(0), 'i');
        check.same("byteAt(2)", loom.byteAt(2), 't');
        check.noSuch("byteAt(3)", () -> loom.byteAt(3));
    }

    private static void counts(Check check) {
        check.holds("Throws `IndexOutOfBoundsException` if what is not 0 to 4");
        TypeLoom loom = check.compiled("type t=A|B;type u=C;def x=1;");
        for (int what : new int[] {-1, 5, -5, 6, Integer.MAX_VALUE, Integer.MIN_VALUE}) {
            check.noSuch("count(" + what + ")", () -> loom.count(what));
            check.noSuch("count(" + what + ") of a new object", () -> new TypeLoom().count(what));
        }
        check.holds("0 types of items, 1 constructors, without Nil and Cons, 2 definitions, 3 bytes of the tape, 4 bytes of"
                + " the paper");
        loom.write(0);
        loom.feed(1, 2, 3, 4, 5);
        loom.trim(19);
        int[] due = {2, 3, 1, 19, 3};
        for (int what = 0; what < due.length; what++) {
            check.same("count(" + what + ")", loom.count(what), due[what]);
        }
        check.holds("Returns how many there are (0 to 2: 0 without a program).");
        loom.trim(0);
        Check.compile(loom, "type t=A|B;type u=C;def x=1;def y=z;");
        int[] without = {0, 0, 0, 0, 3};
        for (int what = 0; what < without.length; what++) {
            check.same("count(" + what + ") behind an error", loom.count(what), without[what]);
        }
    }

    private static String fullText() {
        StringBuilder text = new StringBuilder();
        for (int n = 0; n < 6; n++) {
            text.append("type t").append(n).append("=");
            for (int k = 0; k < 4; k++) {
                text.append(k == 0 ? "" : "|").append("K").append(n).append((char) ('a' + k));
            }
            text.append(";");
        }
        for (int n = 0; n < 24; n++) {
            text.append("def d").append(n).append("=").append(n == 0 ? "K5d" : "d" + (n - 1)).append(";");
        }
        return text.toString();
    }

    private static void fullProgram(Check check) {
        check.holds("0 types of items, 1 constructors, without Nil and Cons, 2 definitions, 3 bytes of the tape, 4 bytes of"
                + " the paper");
        String text = fullText();
        text = text.substring(0, text.length() - 1) + " ".repeat(1200 - text.length()) + ";";
        TypeLoom loom = new TypeLoom();
        Check.put(loom, text);
        check.same("bytes", loom.count(3), 1200);
        check.same("compile", loom.compile(), 0);
        int[] due = {6, 24, 24, 0, 0};
        for (int what = 0; what < due.length; what++) {
            check.same("count(" + what + ")", loom.count(what), due[what]);
        }
        check.same("write(23)", loom.write(23), 2);
        check.same("its paper", Check.paper(loom), "t5");
        check.same("writeConstructor(23)", loom.writeConstructor(23), 2);
        check.same("uses", loom.uses(23, 22), 1);
        check.isTrue("covers", loom.covers(23, 0));
        check.same("meet", loom.meet(0, 23), 2);
        check.same("measure", loom.measure(23, 0), 1);
        check.answer(loom, "(d0,(d23,(K0a,K5d)))", "t5 * (t5 * (t0 * t5))");
        check.noSuch("write(24)", () -> loom.write(24));
        check.noSuch("writeConstructor(24)", () -> loom.writeConstructor(24));
        check.noSuch("uses(23, 24)", () -> loom.uses(23, 24));
        check.noSuch("uses(24, 23)", () -> loom.uses(24, 23));
        check.noSuch("covers(23, 24)", () -> loom.covers(23, 24));
        check.noSuch("meet(24, 23)", () -> loom.meet(24, 23));
        check.noSuch("measure(24, 0)", () -> loom.measure(24, 0));
    }

    private static void measures(Check check) {
        check.holds("0 the parts of its type, 1 how many different marks stand in it, 2 its order:");
        TypeLoom loom = check.compiled("type o 'a=O;def a=1;def b=fun x->x;def c:'a->'b->('a*'b)*'a=c;def d:list (o bool)=d;"
                + "def e=e;def f=fun" + " x".repeat(59) + "->Nil;");
        int[] parts = {1, 3, 9, 3, 1, 120};
        int[] marks = {0, 1, 2, 0, 1, 60};
        int[] orders = {0, 1, 1, 0, 0, 1};
        for (int def = 0; def < parts.length; def++) {
            check.same("parts of " + def, loom.measure(def, 0), parts[def]);
            check.same("marks of " + def, loom.measure(def, 1), marks[def]);
            check.same("order of " + def, loom.measure(def, 2), orders[def]);
        }
    }

    private static void measureRefuses(Check check) {
        check.holds("Throws `IndexOutOfBoundsException` if there is no such definition, or what is not 0 to 2");
        TypeLoom loom = check.compiled("type t=A|B|C;def x=1;def y=2;");
        for (int far : FAR) {
            check.noSuch("measure(" + far + ", 0)", () -> loom.measure(far, 0));
            check.noSuch("measure(0, " + far + ")", () -> loom.measure(0, far));
            check.noSuch("measure(" + far + ", " + far + ")", () -> loom.measure(far, far));
            check.noSuch("measure without a program", () -> new TypeLoom().measure(far, 0));
        }
        for (int what = 0; what <= 2; what++) {
            int which = what;
            check.noSuch("measure(2, " + what + ")", () -> loom.measure(2, which));
            check.noSuch("measure(0, 0) without a program", () -> new TypeLoom().measure(0, which));
        }
        check.noSuch("measure(0, 3)", () -> loom.measure(0, 3));
        check.noSuch("measure(1, 3)", () -> loom.measure(1, 3));
        check.noSuch("measure(0, -1)", () -> loom.measure(0, -1));
        check.same("measure(1, 2)", loom.measure(1, 2), 0);
        check.same("measure(1, 0)", loom.measure(1, 0), 1);
    }

    private static void orders(Check check) {
        check.holds("0 for int, bool and marks; of a pair and of a name the greatest one of its parts (0 without parts); of a"
                + " function the greater one of the order of its right part and of 1 more than that of its left part");
        order(check, "int", 0);
        order(check, "bool", 0);
        order(check, "'a", 0);
        order(check, "u", 0);
        order(check, "list int", 0);
        order(check, "q int bool u", 0);
        order(check, "int*bool", 0);
        order(check, "int->int", 1);
        order(check, "int->int->int", 1);
        order(check, "(int->int)->int", 2);
        order(check, "int->(int->int)->int", 2);
        order(check, "((int->int)->int)->int", 3);
        order(check, "(int->int)->(int->int)->int", 2);
        order(check, "int->((int->int)->int)", 2);
        order(check, "(int->int->int)->int", 2);
        order(check, "(int->int)*int", 1);
        order(check, "int*(int->int)", 1);
        order(check, "((int->int)->int)*(int->int)", 2);
        order(check, "(int->int)*((int->int)->int)", 2);
        order(check, "q (int->int) int int", 1);
        order(check, "q int (int->int) int", 1);
        order(check, "q int int (int->int)", 1);
        order(check, "q ((int->int)->int) (int->int) int", 2);
        order(check, "q int (int->int) ((int->int)->int)", 2);
        order(check, "q (int->int) ((int->int)->int) 'a", 2);
        order(check, "(int*(int->int))->int", 2);
        order(check, "list (int->int)->int", 2);
        order(check, "int->list ((int->int)->int)", 2);
        order(check, "(".repeat(11) + "int" + "->int)".repeat(11) + "->int", 12);
    }

    private static void order(Check check, String form, int due) {
        TypeLoom loom = check.compiled("type u=U;type q 'a 'b 'c=Q;def x:" + form + "=x;");
        check.same("order of " + form, loom.measure(0, 2), due);
    }

    private static void uses(Check check) {
        check.holds("Returns how often the name of the definition b stands in the expression of a, and means it.");
        TypeLoom loom = check.compiled("def a=1;def b=a;def c=a+a+b;def d=fun a->a+d b;def e=let a=a in a+(fun b->b) b;"
                + "def f=fun l->case l of Cons a b->a+1|Nil->a end;"
                + "def g=(let b=1 in b,b);");
        int[][] due = {{0, 0, 0, 0, 0, 0, 0}, {1, 0, 0, 0, 0, 0, 0}, {2, 1, 0, 0, 0, 0, 0}, {0, 1, 0, 1, 0, 0, 0},
            {1, 1, 0, 0, 0, 0, 0}, {1, 0, 0, 0, 0, 0, 0}, {0, 1, 0, 0, 0, 0, 0}};
        for (int user = 0; user < due.length; user++) {
            for (int named = 0; named < due.length; named++) {
                check.same("uses(" + user + ", " + named + ")", loom.uses(user, named), due[user][named]);
            }
        }
        TypeLoom forms = check.compiled("type a=A;def a:a=A;def b:a=a;");
        check.same("a form uses nothing", forms.uses(0, 0), 0);
        check.same("an expression does", forms.uses(1, 0), 1);
        TypeLoom many = check.compiled("def a=1;def b=" + "a+".repeat(144) + "a;");
        check.same("as often as there is room", many.uses(1, 0), 145);
        check.same("ask", Check.ask(many, "a+b+a"), 0);
        check.same("uses behind ask", many.uses(1, 0), 145);
        check.same("compile", Check.compile(many, "def b=1;def a=b+b;"), 0);
        check.same("uses in another program", many.uses(1, 0), 2);
        check.same("uses in another program", many.uses(0, 0), 0);
    }

    private static void usesRefuse(Check check) {
        check.holds(NO_DEFINITION);
        TypeLoom loom = check.compiled("def a=1;def b=a;");
        for (int far : FAR) {
            check.noSuch("uses(" + far + ", 0)", () -> loom.uses(far, 0));
            check.noSuch("uses(1, " + far + ")", () -> loom.uses(1, far));
            check.noSuch("uses(" + far + ", " + far + ")", () -> loom.uses(far, far));
        }
        check.noSuch("uses(2, 0)", () -> loom.uses(2, 0));
        check.noSuch("uses(0, 2)", () -> loom.uses(0, 2));
        check.noSuch("uses without a program", () -> new TypeLoom().uses(0, 0));
        check.same("uses(1, 0)", loom.uses(1, 0), 1);
    }

    private static void covers(Check check) {
        check.holds("Returns whether the type of a becomes that of b, if other types are put in the places of its marks (the"
                + " same one for the same mark).");
        String[] types = {"'a", "int", "'a->'b", "'a->'a", "int->'a", "int->int", "int->bool", "'a*'b", "'a*'a", "int*int",
            "list 'a", "list int", "list (list 'a)", "('a->'b)->'a->'b", "('a->'a)->'a->'a"};
        String[] covered = {"111111111111111", "010000000000000", "001111100000011", "000101000000011", "000011100000000",
            "000001000000000", "000000100000000", "000000011100000", "000000001100000", "000000000100000",
            "000000000011100", "000000000001000", "000000000000100", "000000000000011", "000000000000001"};
        for (int one = 0; one < types.length; one++) {
            for (int other = 0; other < types.length; other++) {
                TypeLoom loom = check.compiled("def x:" + types[one] + "=x;def y:" + types[other] + "=y;");
                check.same("covers of " + types[one] + " and " + types[other], loom.covers(0, 1) ? 1 : 0,
                        covered[one].charAt(other) - '0');
                check.same("covers of " + types[other] + " and " + types[one], loom.covers(1, 0) ? 1 : 0,
                        covered[other].charAt(one) - '0');
            }
        }
        TypeLoom loom = check.compiled("type q 'a 'b 'c=Q;def x:q 'a 'b 'a=x;def y:q int bool int=y;def z:q int bool bool=z;");
        check.isTrue("the same for the same mark", loom.covers(0, 1));
        check.isFalse("another for the same mark", loom.covers(0, 2));
        check.isTrue("itself", loom.covers(0, 0));
    }

    private static void coversRefuses(Check check) {
        check.holds(NO_DEFINITION);
        TypeLoom loom = check.compiled("def a=1;def b=a;");
        for (int far : FAR) {
            check.noSuch("covers(" + far + ", 0)", () -> loom.covers(far, 0));
            check.noSuch("covers(0, " + far + ")", () -> loom.covers(0, far));
            check.noSuch("covers(" + far + ", " + far + ")", () -> loom.covers(far, far));
        }
        check.noSuch("covers(2, 0)", () -> loom.covers(2, 0));
        check.noSuch("covers(0, 2)", () -> loom.covers(0, 2));
        check.noSuch("covers without a program", () -> new TypeLoom().covers(0, 0));
        check.isTrue("covers(1, 0)", loom.covers(1, 0));
    }

    private static void meets(Check check) {
        check.holds("Writes the most general type that both types cover (all marks of the one are others than those of the"
                + " other one), likewise.");
        meet(check, "'a", "'a", "'a");
        meet(check, "'a", "int", "int");
        meet(check, "'a->int", "bool->'a", "bool -> int");
        meet(check, "'a->'b", "'b->'a", "'a -> 'b");
        meet(check, "'a->'a", "'b->'c", "'a -> 'a");
        meet(check, "'a->'b->'a", "'a->'a->'b", "'a -> 'a -> 'a");
        meet(check, "'a->int", "list 'a->'b", "list 'a -> int");
        meet(check, "'a*'b", "('a*'a)*('b->int)", "('a * 'a) * ('b -> int)");
        meet(check, "'a*list 'a", "list 'b*'c", "list 'a * list (list 'a)");
        meet(check, "('a->'b)*'b", "'c*int", "('a -> int) * int");
        check.holds("Returns the number of bytes; 0 if there is none (the paper is empty then).");
        meet(check, "int", "bool", "");
        meet(check, "'a->'b", "'a*'b", "");
        meet(check, "'a*'a", "int*bool", "");
        meet(check, "'a*'a", "'b*list 'b", "");
        meet(check, "'a->'a", "'b->'b->'b", "");
        meet(check, "list int", "list bool", "");
        meet(check, "int->int->int", "int->int", "");
    }

    private static void meet(Check check, String one, String other, String due) {
        TypeLoom loom = check.compiled("def x:" + one + "=x;def y:" + other + "=y;");
        String own = Check.written(loom, 0);
        for (int n = 0; n < 2; n++) {
            loom.write(0);
            check.same("meet of " + one + " and " + other, loom.meet(n, 1 - n), due.length());
            check.same("its paper", Check.paper(loom), due);
            check.same("count(4)", loom.count(4), due.length());
            check.noSuch("byteAt behind it", () -> loom.byteAt(due.length()));
        }
        check.same("meet with itself", loom.meet(0, 0), own.length());
        check.same("its paper", Check.paper(loom), own);
        check.same("x is as it was", Check.written(loom, 0), own);
    }

    private static void meetRefuses(Check check) {
        check.holds(NO_DEFINITION);
        TypeLoom loom = check.compiled("def a=1;def b=a;");
        loom.write(0);
        for (int far : FAR) {
            check.noSuch("meet(" + far + ", 0)", () -> loom.meet(far, 0));
            check.noSuch("meet(0, " + far + ")", () -> loom.meet(0, far));
            check.noSuch("meet(" + far + ", " + far + ")", () -> loom.meet(far, far));
        }
        check.noSuch("meet(2, 0)", () -> loom.meet(2, 0));
        check.noSuch("meet(0, 2)", () -> loom.meet(0, 2));
        check.noSuch("meet without a program", () -> new TypeLoom().meet(0, 0));
        check.same("the paper stays", Check.paper(loom), "int");
    }

    private static void asks(Check check) {
        check.holds(ASK);
        TypeLoom loom = new TypeLoom();
        check.answer(loom, "(fst,(snd,(Nil,Cons)))",
                "('a * 'b -> 'a) * (('c * 'd -> 'd) * (list 'e * ('f -> list 'f -> list 'f)))");
        check.questionError(loom, 2, "@x");
        check.same("the program is still none", loom.count(2), 0);
        check.noSuch("writeAt behind ask", () -> loom.writeAt(0));
        check.holds("Returns 0, or the error, 1, 2, 5, 6, 7 or 9 (9 at its first token, if the type would need more than 400"
                + " bytes).");
        check.answer(loom, "1", "int");
        check.questionError(loom, 1, "@");
        check.questionError(loom, 1, "1 @end");
        check.questionError(loom, 2, "(1,@x)");
        check.questionError(loom, 2, "@A");
        check.questionError(loom, 5, "1 @1");
        check.questionError(loom, 6, "case Nil of @Nil a->1 end");
        check.questionError(loom, 7, "case Nil of Nil->1|@Nil->1 end");
        check.questionError(loom, 9, "(1,let @x=fun" + " y".repeat(60) + "->1 in 1)");
        check.questionError(loom, 9, "@fun" + " y".repeat(90) + "->1");
        check.holds("the paper stays if there is an error, or more than 400 bytes would be needed.");
        check.same("the paper stays", Check.paper(loom), "int");
        check.same("its bytes", loom.count(4), 3);
    }

    private static void asksOfTheProgram(Check check) {
        check.holds(ASK);
        TypeLoom loom = check.compiled("type o 'a=N|S 'a;def id=fun x->x;def c:int->int=fun x->x;def n=N;");
        long digest = loom.digest();
        check.answer(loom, "(id 1,id true)", "int * bool");
        check.answer(loom, "(S 1,S true)", "o int * o bool");
        check.answer(loom, "(n=S 1,n=S true)", "bool * bool");
        check.answer(loom, "n", "o 'a");
        check.answer(loom, "c", "int -> int");
        check.questionError(loom, 5, "c @true");
        check.answer(loom, "let id=1 in id", "int");
        check.answer(loom, "id", "'a -> 'a");
        check.answer(loom, "case n of S a->a|N->id 1 end", "int");
        check.questionError(loom, 2, "@x");
        check.same("an empty meeting", loom.meet(1, 2), 0);
        check.same("the program is as it was", loom.digest(), digest);
        check.same("an expression of the program", loom.writeAt(31), 2);
    }

    private static void means(Check check) {
        check.holds("Returns the mean of the parts of the types of all definitions; 0 if there are none.");
        mean(check, "type t=A;", 0, 0);
        mean(check, "def x=1;", 1, 1);
        mean(check, "def x=1;def y=(1,1);", 4, 2);
        mean(check, "def x=1;def y=Nil;", 3, 2);
        mean(check, "def x=1;def y=2;def z=Nil;", 4, 3);
        mean(check, "def x=fun" + " x".repeat(59) + "->Nil;def y=1;def z=2;", 122, 3);
        StringBuilder text = new StringBuilder();
        for (int n = 0; n < 23; n++) {
            text.append("def d").append(n).append("=1;");
        }
        mean(check, text + "def x=fun x->x;", 26, 24);
        TypeLoom loom = new TypeLoom();
        check.isTrue("of a new object", loom.meanParts() == 0.0);
        Check.compile(loom, "def x=(1,1);");
        check.isTrue("of a program", loom.meanParts() == 3.0);
        Check.ask(loom, "1");
        check.isTrue("behind ask", loom.meanParts() == 3.0);
        Check.compile(loom, "def x=(1,1);def y=z;");
        check.isTrue("behind an error", loom.meanParts() == 0.0);
    }

    private static void mean(Check check, String text, double sum, int many) {
        double due = many == 0 ? 0.0 : sum / many;
        check.isTrue("mean of " + text, check.compiled(text).meanParts() == due);
    }

    /** The digest that is due by what the other calls answer. */
    private static long digestOf(TypeLoom loom) {
        long d = 409;
        for (int what = 0; what <= 4; what++) {
            d = d * 31 + loom.count(what);
        }
        int definitions = loom.count(2);
        for (int def = 0; def < definitions; def++) {
            for (int what = 0; what <= 2; what++) {
                d = d * 31 + loom.measure(def, what);
            }
            for (int other = 0; other < definitions; other++) {
                d = d * 31 + loom.uses(def, other);
            }
        }
        int bytes = loom.count(4);
        for (int k = 0; k < bytes; k++) {
            d = d * 31 + loom.byteAt(k);
        }
        return d;
    }

    private static void digests(Check check) {
        check.holds(DIGEST);
        check.same("of a new object", new TypeLoom().digest(), 11709322759L);
        TypeLoom loom = new TypeLoom();
        loom.feed(1, 2, 3, 4, 5);
        check.same("with a tape", loom.digest(), 11709322759L + 20 * 31);
        loom.trim(0);
        check.same("with an empty tape", loom.digest(), 11709322759L);
        Check.ask(loom, "1");
        check.same("with a paper", loom.digest(), digestOf(loom));
        String[] programs = {"type t=A;", "def x=1;", "def x=fun x->x;def y=x x;", "type t=A|B;def f=fun x->f (f x);def x=f;",
            "def a=1;def b=a;def c=a+b;def d=a+b+c+d;", "def x=y;", ""};
        for (String text : programs) {
            Check.compile(loom, text);
            check.same("behind " + text, loom.digest(), digestOf(loom));
            check.same("behind it once more", loom.digest(), digestOf(loom));
        }
    }

    private static void digestsOfFullObjects(Check check) {
        check.holds(DIGEST);
        TypeLoom loom = check.compiled("def x:" + "bool->".repeat(49) + "list int=x;def y=x;");
        check.same("a full paper", loom.write(1), 400);
        check.same("which wraps around", loom.digest(), digestOf(loom));
        // Behind the bytes of the tape come those of the paper, 2 * (3 + 2) numbers, and 400 bytes.
        long due = loom.digest();
        for (int n = 0; n < 60; n++) {
            loom.feed(-1, -1, -1, -1, -1);
        }
        long weight = 1;
        for (int n = 0; n < 411; n++) {
            weight *= 31;
        }
        check.same("with a full tape", loom.digest(), due + 1200 * weight);
        loom.trim(1199);
        check.same("with a tape of 1199 bytes", loom.digest(), due + 1199 * weight);
        digestOfAFullProgram(check);
    }

    private static void digestOfAFullProgram(Check check) {
        TypeLoom full = check.compiled(fullText());
        long due = 409;
        for (int number : new int[] {6, 24, 24, 0, 0}) {
            due = due * 31 + number;
        }
        for (int def = 0; def < 24; def++) {
            due = due * 31 * 31 * 31 + 31 * 31;
            for (int other = 0; other < 24; other++) {
                due = due * 31 + (other == def - 1 ? 1 : 0);
            }
        }
        check.same("of a full program", full.digest(), due);
    }
}
