/** Each sentence on the tokens of a text that names an edge: which bytes, how many, where the error stands. */
public final class TokenEdgesTest {
    private static final String WORD =
            "A word: a letter a to z, followed by letters a to z and digits, at most 8 bytes in all.";
    private static final String CAPITAL = "A capital: a letter A to Z, followed by letters a to z and digits, at most 8 bytes.";
    private static final String LONGEST = "The longest possible token is always read.";
    private static final String KEYWORDS = "The keywords are: type def let in fun if then else case of end true false.";
    private static final String BLANKS = "Blanks (32) and line ends (10) can stand between tokens, at the beginning and at the"
            + " end, and have to stand between two tokens that would otherwise be read as one.";

    public static void main(String[] args) {
        Check check = new Check("TokenEdgesTest");
        blanks(check);
        bytesBetweenTokens(check);
        tokensThatNeedNoBlank(check);
        bytesOfWords(check);
        lengthsOfWords(check);
        bytesOfCapitals(check);
        lengthsOfCapitals(check);
        marks(check);
        numbers(check);
        symbols(check);
        longestToken(check);
        keywords(check);
        allOtherWords(check);
        placeOfTheFirstByte(check);
        check.end();
    }

    private static boolean isDigit(int b) {
        return b >= '0' && b <= '9';
    }

    private static boolean isSmall(int b) {
        return b >= 'a' && b <= 'z';
    }

    /** What ask answers, and where. */
    private static void due(Check check, String text, int error, int place) {
        TypeLoom loom = new TypeLoom();
        check.same("ask of " + text, Check.ask(loom, text), error);
        check.same("errorAt behind " + text, loom.errorAt(), place);
    }

    private static void blanks(Check check) {
        check.holds(BLANKS);
        check.compiled("def x=1;");
        check.compiled(" def x=1;");
        check.compiled("\ndef x=1;");
        check.compiled("def x=1; ");
        check.compiled("def x=1;\n");
        check.compiled("\n \n\n  def\n \nx \n = \n 1 \n ; \n\n ");
        check.programError(1, "def@");
        check.programError(2, "def x=@defx;");
        check.programError(1, "@defx=1;");
        check.programError(1, "def x=1;@typet=A;");
        check.programError(1, "def@\tx=1;");
        check.programError(1, "@\rdef x=1;");
        check.programError(1, "def x=1;@\r\n");
        check.programError(1, "def x=1;\n@\u00a0");
        check.programError(2, "def x = fun ab -> @a b;");
        check.typeOfLast("def x = fun a b -> a b;", "('a -> 'b) -> 'a -> 'b");
        check.programError(5, "def x = 12 @34;");
        check.typeOfLast("def x = 1234;", "int");
        check.programError(1, "def x = iftrue @then 1 else 2;");
        check.programError(1, "def x = if truethen 1 @else 2;");
        check.programError(1, "def x = if true then1 @else 2;");
        check.programError(1, "def x = letx = 1 @in x;");
        check.programError(1, "def x = case Nil of Nil -> 1 end1@;");
        check.programError(1, "def x = f - @> 1;");
        check.programError(1, "type t @' a = A;");
    }

    /** Each byte stands once between two tokens that need no blank between them. */
    private static void bytesBetweenTokens(Check check) {
        check.holds(BLANKS);
        for (int b = 0; b < 256; b++) {
            String text = "(1" + (char) b + ",2)";
            boolean blank = b == ' ' || b == '\n';
            boolean operator = b == '+' || b == '-' || b == '*' || b == '<' || b == '=' || b == '(' || b == ',';
            boolean word = isSmall(b) || b >= 'A' && b <= 'Z';
            int error = blank || isDigit(b) ? 0 : word ? 2 : 1;
            int place = error == 0 ? -1 : operator || b == ')' ? 3 : 2;
            due(check, text, error, place);
        }
    }

    private static void tokensThatNeedNoBlank(Check check) {
        check.holds(BLANKS);
        check.typeOfLast("type t'a'b=A'a'b|B(t'b'a)'a;def f:int->'a->int*'a=fun x y->(x+1,y);", "int -> 'a -> int * 'a");
        check.typeOfLast("def x=let y=1in y;", "int");
        check.typeOfLast("def x=if 1<2then(1)else(2);", "int");
        check.typeOfLast("def x=case(Nil)of Nil->1|Cons a b->2end;", "int");
        check.typeOfLast("def x=fun f->f 1Nil;", "(int -> list 'a -> 'b) -> 'b");
        check.typeOfLast("def f=fun x->x;def x=(f Nil)=f(Nil);def y=f Nil=Nil;", "bool");
        check.programError(5, "def x=Nil@Cons;");
        check.programError(5, "def x=1@true;");
        check.typeOfLast("def x=fun f->f 12(1);", "(int -> int -> 'a) -> 'a");
    }

    /** Each byte stands once behind the first letter of a name that is bound, and of its use. */
    private static void bytesOfWords(Check check) {
        check.holds(WORD);
        for (int b = 0; b < 256; b++) {
            boolean goesOn = isSmall(b) || isDigit(b) || b == ' ' || b == '\n';
            String text = "fun a" + (char) b + "->a" + (char) b;
            due(check, text, goesOn ? 0 : 1, goesOn ? -1 : 5);
        }
        for (int b = 0; b < 256; b++) {
            String text = "fun " + (char) b + "b->" + (char) b + "b";
            boolean begins = isSmall(b) || b == ' ' || b == '\n';
            due(check, text, begins ? 0 : 1, begins ? -1 : 4);
        }
        check.typeOfLast("def a0=1;def a9=true;def z0=a0;def z9=a9;def az=(z0,z9);", "int * bool");
    }

    private static void lengthsOfWords(Check check) {
        check.holds(WORD);
        String letters = "abcdefghijklmnopqrstuvwxyz0123456789";
        for (int length = 1; length <= letters.length(); length++) {
            String word = letters.substring(0, length);
            due(check, "fun " + word + "->1", length <= 8 ? 0 : 1, length <= 8 ? -1 : 4);
            due(check, "(1, " + word + ")", length <= 8 ? 2 : 1, 4);
            due(check, "fun x" + "0".repeat(length - 1) + "->1", length <= 8 ? 0 : 1, length <= 8 ? -1 : 4);
        }
        check.programError(1, "def @abcdefghi = 1;");
        check.programError(1, "type @abcdefghi = A;");
        check.programError(1, "def x : @abcdefghi = 1;");
        check.programError(1, "type t = A @abcdefghi;");
        check.programError(1, "def x = @deffalse1;");
        check.programError(1, "def x = 1;@falsedefs x = 1;");
        check.typeOfLast("def abcdefgh = 1; def abcdefgi = true; def abcdefg = (abcdefgh, abcdefgi);", "int * bool");
        check.typeOfLast("def bbcdefgh = 1; def abcdefgh = true; def x = (bbcdefgh, abcdefgh);", "int * bool");
        check.programError(2, "def abcdefgh = @abcdefg;");
        check.programError(2, "def abcdefg = @abcdefgh;");
        check.programError(2, "def bbcdefgh = @abcdefgh;");
        check.programError(3, "def abcdefgh = 1; def abcdefgi = 1; def @abcdefgh = 1;");
    }

    /** Each byte stands once behind a capital that is known alone. */
    private static void bytesOfCapitals(Check check) {
        check.holds(CAPITAL);
        for (int b = 0; b < 256; b++) {
            boolean goesOn = isSmall(b) || isDigit(b);
            boolean operator = b == '+' || b == '-' || b == '*' || b == '<' || b == '=' || b == '(';
            boolean blank = b == ' ' || b == '\n';
            int error = blank ? 0 : goesOn || b >= 'A' && b <= 'Z' ? 2 : 1;
            due(check, "Cons" + (char) b, error, blank ? -1 : goesOn ? 0 : operator ? 5 : 4);
        }
        for (int b = 0; b < 256; b++) {
            boolean begins = b >= 'A' && b <= 'Z';
            TypeLoom loom = new TypeLoom();
            int due = begins || b == ' ' || b == '\n' ? 0 : 1;
            check.same("compile with byte " + b, Check.compile(loom, "type t=" + (char) b + (begins ? "" : "A") + ";"), due);
            check.same("errorAt with byte " + b, loom.errorAt(), due == 0 ? -1 : 7);
        }
        check.typeOfLast("type t=A|Az|A0|A9|Z9|Za;def x=(A,(Az,(A0,(A9,(Z9,Za)))));", "t * (t * (t * (t * (t * t))))");
    }

    private static void lengthsOfCapitals(Check check) {
        check.holds(CAPITAL);
        String letters = "Abcdefghijklmnopqrstuvwxyz0123456789";
        for (int length = 1; length <= letters.length(); length++) {
            String capital = letters.substring(0, length);
            due(check, capital, length <= 8 ? 2 : 1, 0);
            due(check, "case Nil of " + capital + " -> 1 end", length <= 8 ? 2 : 1, 12);
            TypeLoom loom = new TypeLoom();
            check.same("compile of " + capital, Check.compile(loom, "type t=B|" + capital + ";"), length <= 8 ? 0 : 1);
            check.same("its place", loom.errorAt(), length <= 8 ? -1 : 9);
        }
        check.typeOfLast("type t = Abcdefgh | Abcdefgi; type u = Bbcdefgh; def x = (Abcdefgi, (Bbcdefgh, Abcdefgh));",
                "t * (u * t)");
        check.programError(2, "type t = Abcdefgh; def x = @Abcdefg;");
        check.programError(2, "type t = Abcdefg; def x = @Abcdefgh;");
    }

    private static void marks(Check check) {
        check.holds("A mark: ' and a letter a to z.");
        for (int b = 0; b < 256; b++) {
            TypeLoom loom = new TypeLoom();
            int due = isSmall(b) ? 0 : 1;
            check.same("compile with mark " + b, Check.compile(loom, "type t'" + (char) b + "=A;"), due);
            check.same("errorAt with mark " + b, loom.errorAt(), due == 0 ? -1 : 6);
        }
        for (char letter = 'a'; letter <= 'z'; letter++) {
            check.typeOfLast("type t '" + letter + " = A '" + letter + "; def x = A 1;", "t int");
        }
        check.programError(1, "type t 'a@b = A;");
        check.programError(1, "type t 'a@1 = A;");
        check.programError(1, "type t 'a@'");
        check.programError(1, "type t @'");
        check.programError(1, "def x = @'a;");
        check.typeOfLast("type t'a=A'aint;def x=A true 1;", "t bool");
    }

    private static void numbers(Check check) {
        check.holds("A number: 1 to 4 digits.");
        String digits = "01234567890123456789";
        for (int length = 1; length <= digits.length(); length++) {
            due(check, digits.substring(0, length), length <= 4 ? 0 : 1, length <= 4 ? -1 : 0);
            due(check, "(" + "9".repeat(length) + ")", length <= 4 ? 0 : 1, length <= 4 ? -1 : 1);
            due(check, "1+" + "0".repeat(length) + "x", length <= 4 ? 2 : 1, length <= 4 ? 2 + length : 2);
        }
        check.programError(1, "def x = @12345 + true;");
        check.programError(5, "def x = 1234 @5678;");
        check.programError(1, "type t = A @12345;");
        check.programError(1, "type t = A @1234;");
    }

    private static void symbols(Check check) {
        check.holds("Symbols: ( ) , ; : = | + - * < ->");
        check.typeOfLast("type t = A | B; def x : int -> int * (bool * t) = fun y -> (y + 1 - 2 * 3, (y < 4, A));",
                "int -> int * (bool * t)");
        check.typeOfLast("def x = 1 = 2;", "bool");
        String others = "!\"#$%&./>?@[\\]^_`{}~\u007f\u0080\u00ff";
        for (int k = 0; k < others.length(); k++) {
            due(check, "1 " + others.charAt(k), 1, 2);
            due(check, "" + others.charAt(k), 1, 0);
        }
        due(check, "1 > 2", 1, 2);
        due(check, "1 -> 2", 1, 2);
        due(check, "1 - > 2", 1, 4);
        due(check, "1 == 2", 1, 3);
        due(check, "1 <= 2", 1, 3);
        due(check, "1 <- 2", 1, 3);
    }

    private static void longestToken(Check check) {
        check.holds(LONGEST);
        due(check, "fun x->x", 0, -1);
        due(check, "fun x-->x", 1, 5);
        due(check, "1-2", 0, -1);
        due(check, "1->2", 1, 1);
        due(check, "1--2", 1, 2);
        due(check, "1-->2", 1, 2);
        due(check, "1->>2", 1, 1);
        due(check, "1-", 1, 2);
        due(check, "fun x-", 1, 5);
        due(check, "fun x->", 1, 7);
        due(check, "letx", 2, 0);
        due(check, "let1", 2, 0);
        due(check, "in2", 2, 0);
        due(check, "trues", 2, 0);
        due(check, "true1", 2, 0);
        due(check, "true 1", 5, 5);
        due(check, "1true", 5, 1);
        due(check, "12a", 2, 2);
        due(check, "123a4", 2, 3);
        due(check, "1234a", 2, 4);
        due(check, "12345a", 1, 0);
        due(check, "fst2", 2, 0);
        due(check, "Nil2", 2, 0);
        due(check, "Nilfst", 2, 0);
        due(check, "NilFst", 2, 3);
        due(check, "Nil Nil", 5, 4);
        due(check, "NilNil", 5, 3);
        due(check, "fstNil", 5, 3);
        due(check, "fstfstfst", 1, 0);
    }

    private static void keywords(Check check) {
        check.holds(KEYWORDS);
        String[] words = {"type", "def", "let", "in", "fun", "if", "then", "else", "case", "of", "end", "true", "false"};
        for (String word : words) {
            due(check, "fun " + word + " -> 1", 1, 4);
            due(check, "fun a " + word + " -> 1", 1, 6);
            due(check, "let " + word + " = 1 in 1", 1, 4);
            due(check, "case Nil of Cons " + word + " a -> 1 end", 1, 17);
            check.programError(1, "def @" + word + " = 1;");
            check.programError(1, "type @" + word + " = A;");
            check.programError(1, "type t = A @" + word + ";");
            check.programError(1, "def x : @" + word + " = 1;");
            check.programError(1, "def x : list @" + word + " = 1;");
        }
    }

    private static void allOtherWords(Check check) {
        check.holds("All other words are names.");
        String[] words = {"typ", "types", "de", "defs", "def1", "le", "lets", "i", "ins", "in1", "fu", "funs", "ifs", "if0",
            "the", "thens", "els", "elses", "cas", "cases", "o", "ofs", "of1", "en", "ends", "tru", "trues", "fals",
            "falses", "f", "t", "c", "e", "d", "l", "fni", "ni", "fi", "fo", "epyt", "and", "or", "not", "rec", "match",
            "with", "begin", "list", "int", "bool", "fst", "snd", "nil", "cons"};
        for (String word : words) {
            TypeLoom loom = check.compiled("def " + word + " = fun " + word + " -> let " + word + " = " + word + " in case "
                    + word + " of Nil -> 1 | Cons " + word + " a -> " + word + " end;");
            check.same("type of " + word, loom.write(0), "list int -> int".length());
            check.answer(loom, word + " (Cons 1 Nil)", "int");
        }
        for (String word : words) {
            boolean known = word.equals("list") || word.equals("int") || word.equals("bool");
            if (known) {
                check.programError(3, "type @" + word + " = A;");
            } else {
                check.compiled("type " + word + " = A " + word + ";");
            }
        }
    }

    private static void placeOfTheFirstByte(Check check) {
        check.holds("The position is that of its first byte.");
        check.programError(1, "def x = \n  @abcdefghijkl;");
        check.programError(1, "def x = \n  @Abcdefghijkl;");
        check.programError(1, "def x = \n  @1234567;");
        check.programError(1, "def x = \n  @-> 1;");
        check.programError(1, "def x = \n  @then 1;");
        check.programError(1, "def x = \n  @'a;");
        check.programError(1, "def x = \n  @';");
        check.programError(1, "def x = 1 \n  @# ;");
        check.programError(2, "def x = \n  @abcdefgh;");
        check.programError(2, "def x = \n  @Abcdefgh;");
    }
}
