/**
 * The same object behind an error, behind a second compile, and behind many calls answers as a new one that was given
 * the last program alone.
 */
public final class UsedAgainTest {
    private static final String GONE = "Compiles the tape as a program. The program that was there is gone in any case.";
    private static final String FULL = "type t 'a 'b 'c=A 'a|B 'b 'c|C (t 'a 'b 'c);type u=D|E u;"
            + "def f:t 'a 'b 'c->int=fun x->case x of A a->1|B b c->2|C d->f d end;"
            + "def g=fun x y->let h=fun z->(x,z) in (h 1,h y);def id=fun x->x;def two=fun x->(x,x);def fst=id id;";
    private static final String[] PROGRAMS = {
        "",
        "def x=1;",
        "def x=",
        "def x=y;",
        FULL,
        "def f=fun x->x;def f=1;",
        "type t=A;type u=B;type v=C;type w=D;type x=E;type y=F;type z=G;",
        "type t 'a=A 'a|B;def x=A 1;def y=case x of A a->a|B->2 end;",
        "def x=fun a b c d e f g h->(a b,(c d,(e f,g h)));def y=x x;",
        "def x=fun a->fun b->let c=(a,b) in case c of Nil->1 end;",
        "def x=(((((((((((((1",
        FULL + "def y=id f;def z=two g;",
        "def id=fun x->x;def y=id id id id id id id;def z=y 1;",
        "type list=A;",
        "def a=1;def b=a+a;def c=a+b+b;def d=case c of Nil->1 end;",
        "def fst=fun x->x;def y=fst 1;",
        "def y=fst (1,2);",
        "def x=fun" + " y".repeat(60) + "->1;",
        "def x=fun" + " y".repeat(59) + "->Nil;",
        "def x:'a->'b=fun y->y;",
        "type t=A|B|C|D;def x=case A of A->1|B->2|C->3|D->4 end;",
        "def x=case Nil of Nil->1|Nil->2 end;",
        "def x=case Nil of Cons->1 end;",
        "def x=1;",
    };
    private static final String[] QUESTIONS = {"1", "x", "id id", "fst (1,2)", "case 1", "let a=1 in a 1", "A", "(",
        "fun a b->a", "case x of Nil->1|Cons a b->a end", "fun" + " y".repeat(67) + "->1", "let a=a in a", "#",
        "let f=fun a->a in (f 1,f true)", "let p=Nil in (Cons 1 p,Cons true p)", "fun y->let f=fun a->(a,y) in (f 1,f true)"};

    public static void main(String[] args) {
        Check check = new Check("UsedAgainTest");
        programsBehindPrograms(check);
        eachBehindEach(check);
        questionsBehindQuestions(check);
        questionsLeaveTheProgram(check);
        sameAgain(check);
        manyAnswers(check);
        growing(check);
        errorsInTheMidst(check);
        check.end();
    }

    /** Both answer the same to what tells most. */
    private static void alike(Check check, String what, TypeLoom used, TypeLoom fresh) {
        check.same("errorAt of " + what, used.errorAt(), fresh.errorAt());
        Check.ask(used, "1=2");
        Check.ask(fresh, "1=2");
        check.same("digest of " + what, used.digest(), fresh.digest());
        int definitions = fresh.count(2);
        if (definitions > 0) {
            check.same("write of " + what, used.write(definitions - 1), fresh.write(definitions - 1));
            check.same("digest of its paper, " + what, used.digest(), fresh.digest());
            check.same("meet of " + what, used.meet(0, definitions - 1), fresh.meet(0, definitions - 1));
        }
        check.noSuch("write of " + what, () -> used.write(definitions));
    }

    private static void programsBehindPrograms(Check check) {
        check.holds(GONE);
        for (int from = 0; from < PROGRAMS.length; from += 6) {
            TypeLoom used = new TypeLoom();
            for (int n = 0; n < 12; n++) {
                String text = PROGRAMS[(from + n) % PROGRAMS.length];
                TypeLoom fresh = new TypeLoom();
                check.same("compile of " + text, Check.compile(used, text), Check.compile(fresh, text));
                alike(check, text, used, fresh);
            }
        }
    }

    private static void eachBehindEach(Check check) {
        check.holds(GONE);
        for (String first : PROGRAMS) {
            for (String second : PROGRAMS) {
                TypeLoom used = new TypeLoom();
                TypeLoom fresh = new TypeLoom();
                Check.compile(used, first);
                check.same("compile of " + second, Check.compile(used, second), Check.compile(fresh, second));
                alike(check, second + " behind " + first, used, fresh);
            }
        }
    }

    private static void questionsBehindQuestions(Check check) {
        check.holds("Reads the tape as an expression, in which all of the program is known (without a program what is known"
                + " at the beginning alone), and writes its type; the paper stays if there is an error, or more than 400"
                + " bytes would be needed.");
        for (String program : PROGRAMS) {
            TypeLoom used = new TypeLoom();
            Check.compile(used, program);
            for (String question : QUESTIONS) {
                TypeLoom fresh = new TypeLoom();
                Check.compile(fresh, program);
                Check.ask(used, "true");
                Check.ask(fresh, "true");
                String what = question + " behind " + program;
                check.same("ask of " + what, Check.ask(used, question), Check.ask(fresh, question));
                check.same("errorAt of " + what, used.errorAt(), fresh.errorAt());
                check.same("digest of " + what, used.digest(), fresh.digest());
            }
        }
    }

    private static void questionsLeaveTheProgram(Check check) {
        check.holds("Writes the type that was found in the end for the shortest expression of the program to which a place"
                + " belongs (all bytes from that of its first token to that of its last one belong to it), likewise.");
        for (int place = FULL.indexOf("def g"); place < FULL.length(); place += 3) {
            TypeLoom used = check.compiled(FULL);
            TypeLoom fresh = check.compiled(FULL);
            for (String question : QUESTIONS) {
                Check.ask(used, question);
            }
            used.covers(0, 1);
            used.covers(4, 2);
            used.meet(1, 2);
            used.meet(3, 4);
            check.same("writeAt " + place, lengthAt(used, place), lengthAt(fresh, place));
            Check.ask(used, "1");
            Check.ask(fresh, "1");
            check.same("writeAt " + place, lengthAt(used, place), lengthAt(fresh, place));
            check.same("paper of " + place, Check.paper(used), Check.paper(fresh));
        }
    }

    private static int lengthAt(TypeLoom loom, int place) {
        try {
            return loom.writeAt(place);
        } catch (IndexOutOfBoundsException e) {
            return -1;
        }
    }

    private static void sameAgain(Check check) {
        check.holds("An object is used for at most 512 calls after it has been made; what later calls answer is free.");
        TypeLoom used = new TypeLoom();
        for (int n = 0; n < 24; n++) {
            check.same("compile " + n, Check.compile(used, FULL), 0);
            check.same("write " + n, used.write(1), "'a -> 'b -> ('a * int) * ('a * 'b)".length());
        }
        check.same("the paper", Check.paper(used), "'a -> 'b -> ('a * int) * ('a * 'b)");
    }

    private static void manyAnswers(Check check) {
        check.holds("An object is used for at most 512 calls after it has been made; what later calls answer is free.");
        TypeLoom used = check.compiled(FULL);
        int calls = 60;
        for (; calls < 505; calls += 5) {
            check.same("meet", used.meet(1, 2), 0);
            check.isFalse("covers", used.covers(1, 2));
            check.isTrue("covers", used.covers(2, 4));
            check.same("measure", used.measure(1, 0), 11);
            check.isTrue("meanParts", used.meanParts() == 5.6);
        }
        check.same("write", used.write(3), "'a -> 'a * 'a".length());
        check.same("meet", used.meet(3, 3), "'a -> 'a * 'a".length());
    }

    /** Types that need much room, one program behind the other, and one question behind the other. */
    private static void growing(Check check) {
        check.holds(GONE);
        String wide = "def f=fun" + " y".repeat(50) + "->1;";
        String text = wide + "def g=(fun" + " x".repeat(110) + "->1)" + " f".repeat(110) + ";";
        TypeLoom used = new TypeLoom();
        for (int n = 0; n < 13; n++) {
            check.same("compile " + n, Check.compile(used, n % 2 == 0 ? text : text + "def h=z;"), n % 2 == 0 ? 0 : 2);
        }
        check.same("parts", used.measure(0, 0), 101);
        check.same("the last type", Check.written(used, 1), "int");
        TypeLoom asked = new TypeLoom();
        Check.compile(asked, wide + "def id=fun x->x;");
        String question = "(fun" + " x".repeat(110) + "->true)" + " f".repeat(110);
        for (int n = 0; n < 13; n++) {
            check.same("ask " + n, Check.ask(asked, question), 0);
            check.same("its bytes " + n, asked.count(4), 4);
        }
        check.same("the parts of f", asked.measure(0, 0), 101);
        check.same("the type of id", Check.written(asked, 1), "'a -> 'a");
    }

    /** An error in the midst of forms, calls or names leaves nothing that fills up. */
    private static void errorsInTheMidst(Check check) {
        check.holds(GONE);
        String[] wrong = {"def x:" + "int->".repeat(100) + "u=1;", "type t=A (" + "int->".repeat(100) + "u);",
            "def x=fun" + " y".repeat(200) + "->z;", "def x=case Nil of Cons a b->(((a,b),(b,a)),c) end;",
            "def x=let a=1 in let b=2 in let c=3 in d;", "def x=(1,(2,(3,(4,(5,6))))) 7;"};
        for (String text : wrong) {
            TypeLoom used = new TypeLoom();
            for (int n = 0; n < 10; n++) {
                check.isTrue("an error in " + text, Check.compile(used, text) != 0);
            }
            check.answer(used, "let f=fun a->a in (f 1,f true)", "int * bool");
            check.same("compile behind it", Check.compile(used, FULL), 0);
            TypeLoom fresh = check.compiled(FULL);
            alike(check, "a program behind ten times " + text, used, fresh);
            check.same("a form", Check.compile(used, "def x:(int->bool)->list int*(int->int)=x;"), 0);
            check.same("its type", Check.written(used, 0), "(int -> bool) -> list int * (int -> int)");
            check.answer(used, "fun a b->let f=fun c->(a,c) in (f 1,(f b,b))", "'a -> 'b -> ('a * int) * (('a * 'b) * 'b)");
        }
    }
}
