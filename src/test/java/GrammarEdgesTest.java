/** Each sentence on the form of a text that names an edge: what may follow, depth, the number of tokens. */
public final class GrammarEdgesTest {
    private static final String FIRST_TOKEN = "Error 1: the first token with which the tokens so far are not the beginning"
            + " of a program (of ask: of an expression).";
    private static final String PRODUCTIONS_OF_ITEMS = "program = item { item } item = \"type\" name { mark } \"=\" capital"
            + " { part } { \"|\" capital { part } } \";\" | \"def\" name [ \":\" form ] \"=\" expression \";\" form = pair"
            + " [ \"->\" form ] pair = use [ \"*\" use ] use = mark | \"(\" form \")\" | name { part } part = mark | name |"
            + " \"(\" form \")\"";
    private static final String PRODUCTIONS_OF_EXPRESSIONS = "expression = \"let\" name \"=\" expression \"in\" expression |"
            + " \"fun\" name { name } \"->\" expression | \"if\" expression \"then\" expression \"else\" expression | \"case\""
            + " expression \"of\" choice { \"|\" choice } \"end\" | relation choice = capital { name } \"->\" expression"
            + " relation = sum [ ( \"=\" | \"<\" ) sum ] sum = product { ( \"+\" | \"-\" ) product } product = call"
            + " { \"*\" call } call = atom { atom } atom = number | name | capital | \"true\" | \"false\" | \"(\" expression"
            + " [ \",\" expression ] \")\"";
    private static final String INCLUDES = "This includes a byte with which no token begins, a word, capital or number that"
            + " is too long, the end of the tape (at its length), the first token of an expression or form whose depth would"
            + " be 13, and the token that would be the 301st.";
    private static final String DEPTH = "It is 0 at the beginning of an item (or of what is asked), and 1 greater between a"
            + " \"(\" and its \")\", and for each expression that is a part of a let, fun, if or case.";

    private static final String[] TOKENS = {"type", "def", "let", "in", "fun", "if", "then", "else", "case", "of", "end",
        "true", "false", "x", "A", "'a", "1", "(", ")", ",", ";", ":", "=", "|", "+", "-", "*", "<", "->"};
    private static final String ATOMS = " 1 x A true false (";
    private static final String EXPRESSIONS = ATOMS + " let fun if case";
    private static final String PARTS = " 'a x (";
    private static final String OPERATORS = ATOMS + " + - *";
    private static final String RELATIONS = OPERATORS + " < =";

    /** A text, and the tokens that can stand behind it. */
    private static final String[][] ITEMS = {
        {"", "type def"},
        {"type", "x"},
        {"type t", "'a ="},
        {"type t 'a", "'a ="},
        {"type t 'a 'b", "'a ="},
        {"type t 'a =", "A"},
        {"type t = A", PARTS + " | ;"},
        {"type t = A int", PARTS + " | ;"},
        {"type t = A 'b", PARTS + " | ;"},
        {"type t = A (int)", PARTS + " | ;"},
        {"type t = A int int int int", PARTS + " | ;"},
        {"type t = A int |", "A"},
        {"type t = A | B", PARTS + " | ;"},
        {"type t = A;", "type def"},
        {"type t = A (", PARTS},
        {"type t = A (int", PARTS + " * -> )"},
        {"type t = A ('b", "* -> )"},
        {"type t = A ((int)", "* -> )"},
        {"type t = A (list int", PARTS + " * -> )"},
        {"type t = A (list 'b", PARTS + " * -> )"},
        {"type t = A (list (int)", PARTS + " * -> )"},
        {"type t = A (int *", PARTS},
        {"type t = A (int * 'b", "-> )"},
        {"type t = A (int * int", PARTS + " -> )"},
        {"type t = A (int * (int)", "-> )"},
        {"type t = A (int ->", PARTS},
        {"type t = A (int -> int", PARTS + " * -> )"},
        {"type t = A (int * int -> 'b", "* -> )"},
        {"type t = A (int) (int", PARTS + " * -> )"},
        {"def", "x"},
        {"def x", ": ="},
        {"def x :", PARTS},
        {"def x : int", PARTS + " * -> ="},
        {"def x : list int", PARTS + " * -> ="},
        {"def x : list 'b", PARTS + " * -> ="},
        {"def x : list (int)", PARTS + " * -> ="},
        {"def x : 'b", "* -> ="},
        {"def x : (int)", "* -> ="},
        {"def x : int *", PARTS},
        {"def x : int * int", PARTS + " -> ="},
        {"def x : int * 'b", "-> ="},
        {"def x : int * (int * int)", "-> ="},
        {"def x : int ->", PARTS},
        {"def x : int -> 'b", "* -> ="},
        {"def x : int -> 'b *", PARTS},
        {"def x : (", PARTS},
        {"def x : ('b", "* -> )"},
        {"def x : int =", EXPRESSIONS},
        {"def x =", EXPRESSIONS},
        {"def x = 1;", "type def"},
        {"type t = A; def x = 1;", "type def"},
    };

    /** The same for the tokens of an expression: ";" stands for its end. */
    private static final String[][] QUESTIONS = {
        {"", EXPRESSIONS},
        {"1", RELATIONS + " ;"},
        {"x", RELATIONS + " ;"},
        {"A", RELATIONS + " ;"},
        {"true", RELATIONS + " ;"},
        {"x 1", RELATIONS + " ;"},
        {"1 +", ATOMS},
        {"1 -", ATOMS},
        {"1 *", ATOMS},
        {"1 <", ATOMS},
        {"1 =", ATOMS},
        {"1 + x", RELATIONS + " ;"},
        {"1 * x", RELATIONS + " ;"},
        {"1 - x + 2", RELATIONS + " ;"},
        {"1 < 2", OPERATORS + " ;"},
        {"1 = 2", OPERATORS + " ;"},
        {"1 = 2 + 3", OPERATORS + " ;"},
        {"1 < 2 * 3", OPERATORS + " ;"},
        {"(", EXPRESSIONS},
        {"(1", RELATIONS + " , )"},
        {"(1 = 2", OPERATORS + " , )"},
        {"(1,", EXPRESSIONS},
        {"(1, 2", RELATIONS + " )"},
        {"(1, 2 < 3", OPERATORS + " )"},
        {"(1)", RELATIONS + " ;"},
        {"(1, 2)", RELATIONS + " ;"},
        {"1 = (1 = 2)", OPERATORS + " ;"},
        {"(1 = 2) ", RELATIONS + " ;"},
        {"x (", EXPRESSIONS},
        {"1 + (", EXPRESSIONS},
        {"let", "x"},
        {"let y", "="},
        {"let y =", EXPRESSIONS},
        {"let y = 1", RELATIONS + " in"},
        {"let y = 1 = 2", OPERATORS + " in"},
        {"let y = 1 in", EXPRESSIONS},
        {"let y = 1 in 2", RELATIONS + " ;"},
        {"let y = 1 in 2 = 3", OPERATORS + " ;"},
        {"let y = let z = 1 in 2", RELATIONS + " in"},
        {"let y = fun z -> 1", RELATIONS + " in"},
        {"let y = case 1 of A -> 1 end", "in"},
        {"fun", "x"},
        {"fun y", "x ->"},
        {"fun y z", "x ->"},
        {"fun y ->", EXPRESSIONS},
        {"fun y -> 1", RELATIONS + " ;"},
        {"fun y -> 1 < 2", OPERATORS + " ;"},
        {"if", EXPRESSIONS},
        {"if 1", RELATIONS + " then"},
        {"if 1 = 2", OPERATORS + " then"},
        {"if 1 then", EXPRESSIONS},
        {"if 1 then 2", RELATIONS + " else"},
        {"if 1 then 2 else", EXPRESSIONS},
        {"if 1 then 2 else 3", RELATIONS + " ;"},
        {"if if 1 then 2 else 3", RELATIONS + " then"},
        {"if 1 then if 1 then 2 else 3", RELATIONS + " else"},
        {"case", EXPRESSIONS},
        {"case 1", RELATIONS + " of"},
        {"case 1 = 2", OPERATORS + " of"},
        {"case fun y -> 1", RELATIONS + " of"},
        {"case 1 of", "A"},
        {"case 1 of B", "x ->"},
        {"case 1 of B y", "x ->"},
        {"case 1 of B y z y z", "x ->"},
        {"case 1 of B ->", EXPRESSIONS},
        {"case 1 of B -> 2", RELATIONS + " | end"},
        {"case 1 of B -> 2 = 3", OPERATORS + " | end"},
        {"case 1 of B -> 2 |", "A"},
        {"case 1 of B -> 2 | C", "x ->"},
        {"case 1 of B -> 2 | C -> 3", RELATIONS + " | end"},
        {"case 1 of B -> 2 end", ";"},
        {"case 1 of B -> case 1 of C -> 2 end", "| end"},
        {"case 1 of B -> let y = 1 in 2", RELATIONS + " | end"},
        {"case 1 of B -> fun y -> 2", RELATIONS + " | end"},
        {"case 1 of B -> if 1 then 2 else 3", RELATIONS + " | end"},
        {"case case 1 of B -> 2 end", "of"},
        {"(case 1 of B -> 2 end", ", )"},
        {"(1, case 1 of B -> 2 end", ")"},
        {"if case 1 of B -> 2 end", "then"},
        {"(let y = 1 in 2", RELATIONS + " , )"},
        {"(fun y -> 2", RELATIONS + " , )"},
    };

    public static void main(String[] args) {
        Check check = new Check("GrammarEdgesTest");
        whatFollowsInItems(check);
        whatFollowsInExpressions(check);
        endOfTape(check);
        leftOut(check);
        depthOfBrackets(check);
        depthOfParts(check);
        depthOfForms(check);
        depthFallsBack(check);
        noDepth(check);
        tokensOfAProgram(check);
        theToken301(check);
        tokensOfAQuestion(check);
        formFirst(check);
        check.end();
    }

    private static boolean isIn(String token, String tokens) {
        return (" " + tokens + " ").contains(" " + token + " ");
    }

    private static void whatFollowsInItems(Check check) {
        check.holds(FIRST_TOKEN);
        check.holds(PRODUCTIONS_OF_ITEMS);
        for (String[] row : ITEMS) {
            for (String token : TOKENS) {
                follows(check, row[0], token, isIn(token, row[1]));
            }
        }
    }

    /** A token that can follow moves error 1 to the end of the tape, or ends it. */
    private static void follows(Check check, String ahead, String token, boolean can) {
        String text = ahead + " " + token;
        TypeLoom loom = new TypeLoom();
        int error = Check.compile(loom, text);
        int place = error == 1 ? loom.errorAt() : text.length();
        check.same("the place of error 1 in " + text, place, can ? text.length() : ahead.length() + 1);
        check.isTrue("error 1 in " + text, error == 1 || can && token.equals(";"));
    }

    private static void whatFollowsInExpressions(Check check) {
        check.holds(FIRST_TOKEN);
        check.holds(PRODUCTIONS_OF_EXPRESSIONS);
        for (String[] row : QUESTIONS) {
            for (String token : TOKENS) {
                follows(check, "def x = " + row[0], token, isIn(token, row[1]));
                asks(check, row[0], token, isIn(token, row[1]) && !token.equals(";"));
            }
        }
    }

    private static void asks(Check check, String ahead, String token, boolean can) {
        String text = ahead + " " + token;
        TypeLoom loom = new TypeLoom();
        int error = Check.ask(loom, text);
        int place = error == 1 ? loom.errorAt() : text.length();
        check.same("the place of error 1 in the question " + text, place, can ? text.length() : ahead.length() + 1);
    }

    private static void endOfTape(Check check) {
        check.holds(INCLUDES);
        for (String[] row : ITEMS) {
            if (!row[0].endsWith(";")) {
                check.programError(1, row[0] + "@");
                check.programError(1, row[0] + " \n @");
            }
        }
        for (String[] row : QUESTIONS) {
            check.programError(1, "def x = " + row[0] + "@");
            TypeLoom loom = new TypeLoom();
            int error = Check.ask(loom, row[0] + "  ");
            check.isTrue("the end of the question " + row[0], isIn(";", row[1]) == (error != 1));
            check.isTrue("its place", error != 1 || loom.errorAt() == row[0].length() + 2);
        }
    }

    /** [ x ] means x or nothing, { x } any number of times, also none. */
    private static void leftOut(Check check) {
        check.holds("[ x ] means x or nothing, { x } means x any number of times, also none, and"
                + " | separates alternatives;");
        check.compiled("type t = A;");
        check.compiled("type t 'a = A 'a;");
        check.compiled("type t 'a 'b 'c = A | B 'a | C 'a 'b | D 'a 'b 'c;");
        check.compiled("def x = 1;");
        check.compiled("def x : int = 1;");
        check.compiled("def x : int -> int -> int -> int = fun a b c -> a;");
        check.compiled("def x : int * int -> int * int -> int * int = fun a b -> a;");
        check.compiled("def x = fun a -> 1; def y = fun a b c d e f g -> 1;");
        check.compiled("def x = case Nil of Nil -> 1 end; def y = case Nil of Nil -> 1 | Cons a b -> 2 end;");
        check.compiled("def x = 1 + 2 - 3 + 4 * 5 * 6; def y = fun f -> f 1 2 3 4 5;");
        check.compiled("type t = A; type u = B; def x = A; def y = B; type v = C;");
    }

    private static String brackets(int depth, String text) {
        return "(".repeat(depth) + text + ")".repeat(depth);
    }

    private static void depthOfBrackets(Check check) {
        check.holds("It may be at most 12.");
        for (int depth = 0; depth <= 12; depth++) {
            check.typeOfLast("def x = " + brackets(depth, "1") + ";", "int");
            check.answer(new TypeLoom(), brackets(depth, "true"), "bool");
        }
        for (int depth = 13; depth <= 40; depth++) {
            String text = "(".repeat(13) + "@" + brackets(depth - 13, "1") + ")".repeat(13);
            check.programError(1, "def x = " + text + ";");
            check.questionError(new TypeLoom(), 1, text);
        }
        check.holds(INCLUDES);
        String[] firstTokens = {"(1)", "fun y -> 1", "let y = 1 in 1", "if true then 1 else 1",
            "case Nil of Nil -> 1 end", "A", "y", "true", "1 + 1", "(1, 1)", "'a", ")", "#"};
        for (String text : firstTokens) {
            check.programError(1, "def x = " + "(".repeat(13) + "@" + text + ")".repeat(13) + ";");
            check.questionError(new TypeLoom(), 1, "(".repeat(13) + "@" + text + ")".repeat(13));
        }
        check.programError(1, "def x = " + "(".repeat(13) + "@");
        check.programError(1, "def x = " + "(".repeat(12) + "1, (@1)");
    }

    /** In each text the part at # has a depth 1 greater than the text; ahead of a first part stands no other. */
    private static void depthOfParts(Check check) {
        check.holds(DEPTH);
        String[] firstParts = {"(#)", "(#, 1)", "fun y -> #", "fun y z -> #", "let y = # in 1", "if # then 1 else 1",
            "case # of Nil -> 1 end"};
        for (String text : firstParts) {
            for (String part : new String[] {"1", "Nil", "y", "1 + 1", "fun z -> 1", "if 1 then 1 else 1"}) {
                String marked = brackets(12, text.replace("#", "@" + part));
                check.questionError(new TypeLoom(), 1, marked);
                check.programError(1, "def x = " + marked + ";");
            }
        }
        String[] allParts = {"(#)", "(#, 1)", "(1, #)", "fun y -> #", "fun y z -> #", "let y = # in 1", "let y = 1 in #",
            "if # then 1 else 1", "if true then # else 1", "if true then 1 else #", "case # of Nil -> 1 end",
            "case Nil of Nil -> # end", "case Nil of Cons a b -> # end", "case Nil of Nil -> 1 | Cons a b -> # end"};
        for (String text : allParts) {
            deepPart(check, text);
        }
    }

    private static void deepPart(Check check, String text) {
        String inside = brackets(11, text.replace("#", "1"));
        check.isTrue("depth 12 in " + inside, Check.ask(new TypeLoom(), inside) != 1);
        check.isTrue("depth 12 in def x = " + inside, Check.compile(new TypeLoom(), "def x = " + inside + ";") != 1);
        String deeper = brackets(10, text.replace("#", "(1, 1)"));
        check.isTrue("depth 12 in " + deeper, Check.ask(new TypeLoom(), deeper) != 1);
        String marked = brackets(11, text.replace("#", "(@1)"));
        check.questionError(new TypeLoom(), 1, marked);
        check.programError(1, "def x = " + marked + ";");
        check.programError(1, "def x = " + brackets(9, text.replace("#", "(1, fun a -> (@1))")) + ";");
        String twice = text.replace("#", "(" + text.replace("#", "1") + ")");
        check.isTrue("depth 12 in " + twice, Check.ask(new TypeLoom(), brackets(9, twice)) != 1);
        String twiceTooDeep = text.replace("#", "(" + text.replace("#", "(@1)") + ")");
        check.questionError(new TypeLoom(), 1, brackets(9, twiceTooDeep));
    }

    private static void depthOfForms(Check check) {
        check.holds(DEPTH);
        String[] texts = {"#", "int -> #", "# -> int", "int * #", "# * int", "list #", "int -> int * list #"};
        for (String text : texts) {
            for (int depth = 1; depth <= 14; depth++) {
                String part = depth <= 12 ? brackets(depth, "int") : "(".repeat(13) + "@" + brackets(depth - 13, "int") + ")";
                String form = text.replace("#", part);
                if (depth <= 12) {
                    check.compiled("def x : " + form + " = x;");
                    check.compiled("type t = A (" + form.replace(part, part.substring(1, part.length() - 1)) + ");");
                    check.compiled("type t = A int " + part + " | B " + part + ";");
                } else {
                    check.programError(1, "def x : " + form);
                    check.programError(1, "type t = A int " + part);
                }
            }
        }
        check.programError(1, "def x : " + "(".repeat(12) + "list (@int)");
        check.programError(1, "type t = A " + "(".repeat(12) + "int -> (@'a)");
        check.programError(1, "def x : " + "(".repeat(13) + "@)");
        check.programError(1, "def x : " + "(".repeat(13) + "@");
    }

    private static void depthFallsBack(Check check) {
        check.holds(DEPTH);
        String deep = brackets(12, "1");
        check.compiled("def x = " + deep + "; def y = " + deep + ";");
        check.compiled("def x = " + deep + " + " + deep + " * " + deep + " < " + deep + ";");
        check.typeOfLast("def x = fun f -> f" + brackets(11, "1").repeat(3) + ";", "(int -> int -> int -> 'a) -> 'a");
        check.compiled("def x = (" + brackets(11, "1") + ", " + brackets(11, "1") + ");");
        String form = brackets(12, "int");
        check.compiled("type t = A " + form + form + " | B " + form + "; def x : " + form + " -> " + form + " = fun y -> y;");
        String functions = "fun a -> ".repeat(11);
        check.compiled("def x = (" + functions + "1, " + functions + "1);");
        check.programError(1, "def x = (" + functions + "1, " + functions + "fun a -> @1);");
        check.compiled("def x = " + "fun a -> ".repeat(12) + "1; def y = " + "fun a -> ".repeat(12) + "1;");
        TypeLoom loom = check.compiled("def x = " + deep + ";");
        check.answer(loom, deep, "int");
        check.answer(loom, deep, "int");
        check.questionError(loom, 1, "(".repeat(13) + "@1");
        check.answer(loom, deep, "int");
    }

    private static void noDepth(Check check) {
        check.holds(DEPTH);
        String calls = "1 + 2 * 3 - f 4 5 6 7 8 9 + 1 * 2 * 3 = 4 - 5 - 6";
        check.compiled("def x = fun f -> " + brackets(11, calls) + ";");
        check.compiled("def x : " + brackets(12, "int -> int * int -> list int -> int") + " = x;");
        check.compiled("def x = fun a b c d e f g h i j k l m n -> 1;");
    }

    /** A text of 2 * numbers - 1 tokens. */
    private static String sum(int numbers) {
        return "1" + "+1".repeat(numbers - 1);
    }

    /** "type t=A;" has 5 tokens, "def x=" and ";" have 4. */
    private static void tokensOfAProgram(Check check) {
        check.holds("A program has at most 300 tokens.");
        check.typeOfLast("def x=" + sum(148) + ";", "int");
        check.typeOfLast("type t=A;def x=" + sum(146) + ";", "int");
        check.typeOfLast("type t=A;def x=" + sum(146) + " \n;\n ", "int");
        check.programError(1, "def x=" + sum(149) + "@;");
        check.programError(1, "type t=A;def x=" + sum(146) + "-@1;");
        check.programError(1, "type t=A;def x=" + sum(146) + ";@def y=1;");
        check.programError(1, "type t=A;def x=" + sum(146) + "; @type u=B;");
        check.programError(1, "def y=1;def x=" + sum(146) + "-@1;");
        check.programError(3, "def x=1;def @x=" + sum(146) + ";");
    }

    private static void theToken301(Check check) {
        check.holds(INCLUDES);
        String last = "type t=A;def x=" + sum(146) + ";";
        String[] tokens = {"def", "type", "1", "x", "A", "'a", "(", ")", ";", "->", "#", "abcdefghi", "12345", "'", "end"};
        for (String token : tokens) {
            check.programError(1, last + " @" + token + " 1");
            check.programError(1, last + "\n@" + token);
        }
        check.compiled(last + " \n ");
        check.programError(1, "type t=A;def x=" + sum(146) + "@");
        check.programError(1, "type t=A;def x=" + sum(146) + "+@");
        check.programError(1, "def x=(" + sum(148) + "@");
        check.programError(1, "def x=(" + sum(148) + ")@");
        check.programError(1, "def x=(" + sum(148) + ")@;");
        check.programError(1, "def x=1@)" + "+1".repeat(200));
        check.programError(1, "def x=" + sum(100) + "@)" + "+1".repeat(200));
        check.programError(1, "def x=" + sum(148) + "+1@+1+1;");
        check.programError(1, "def x=" + sum(148) + "+(@((((((((((((1");
        check.programError(1, "def x=" + sum(140) + "+(((((((((((((@1");
    }

    private static void tokensOfAQuestion(Check check) {
        check.holds(INCLUDES);
        TypeLoom loom = check.compiled("def id=fun x->x;");
        check.answer(loom, sum(150), "int");
        check.answer(loom, "id " + sum(149), "int");
        check.answer(loom, "id " + sum(150), "int");
        check.questionError(loom, 1, sum(150) + "+@1");
        check.questionError(loom, 1, "id " + sum(150) + "@+1");
        check.questionError(loom, 1, "id " + sum(150) + "@;");
        check.answer(loom, "id " + sum(150) + " ", "int");
    }

    private static void formFirst(Check check) {
        check.holds("Only if there is no error of form, the meaning is looked at, item by item, in each in the order told"
                + " below: the first error is told (of two at one place that which is told first here; a part too many ahead"
                + " of what is in it).");
        check.programError(1, "def x = y@");
        check.programError(1, "def x = y; @x");
        check.programError(1, "type int = Nil nope nope nope nope; def x = 1 + true; def @1");
        check.programError(1, "def x = 1 + true; def y = " + "(".repeat(13) + "@1");
        check.programError(2, "def x = @y; def y = 1 + true;");
        check.programError(5, "def x = 1 + @true; def y = z;");
        check.programError(3, "def x = 1; def @x = y; type int = A;");
        check.programError(3, "type @int = A; def x = y;");
        check.programError(2, "def x = @y; type int = A;");
        TypeLoom loom = new TypeLoom();
        check.questionError(loom, 1, "x + (1@");
        check.questionError(loom, 1, "1 true @;");
        check.questionError(loom, 2, "@x + true");
    }
}
