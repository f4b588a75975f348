import java.util.Arrays;

/**
 * A checker of types for a small language of functions.
 *
 * <p>A text goes this way: the tape is cut into Tokens, the Parser looks at its form and tells it
 * as a row of Steps in the order in which the meaning is looked at, and the Checker walks over
 * these steps once. The first error of form or meaning stands in the Fault.
 */
public final class TypeLoom {
    private static final int TAPE_BYTES = 1200;
    private static final int BYTES_FED = 20;
    private static final int MEASURES = 3;
    private static final int COUNTS = 5;

    private final byte[] tape = new byte[TAPE_BYTES];
    private final Fault fault = new Fault();
    private final Tokens tokens = new Tokens(tape);
    private final Types types = new Types();
    private final Known known = new Known(types);
    private final Steps program = new Steps();
    private final Steps question = new Steps();
    private final Parser parser = new Parser(tokens, fault, program);
    private final Checker checker = new Checker(tokens, known, fault, program);
    private final Writer writer = new Writer(types, known);
    private int tapeSize;

    /** Creates a checker without a program, with an empty tape and an empty paper. */
    public TypeLoom() {
        tapeSize = 0;
    }

    /** Appends twenty bytes to the tape, the four of each number, and returns its length. */
    public int feed(int a, int b, int c, int d, int e) throws IllegalStateException {
        if (tapeSize + BYTES_FED > TAPE_BYTES) {
            throw new IllegalStateException("the tape has no room for twenty bytes");
        }
        append(a);
        append(b);
        append(c);
        append(d);
        append(e);
        return tapeSize;
    }

    /** Shortens the tape to its first n bytes. */
    public int trim(int n) throws IllegalArgumentException {
        if (n < 0 || n > tapeSize) {
            throw new IllegalArgumentException("the tape does not have so many bytes");
        }
        tapeSize = n;
        return n;
    }

    /** Compiles the tape as a program and returns 0 or the error. */
    public int compile() {
        forgetProgram();
        fault.clear();
        tokens.read(tapeSize);
        tapeSize = 0;
        parser.readProgram(program);
        checker.run(program);
        if (fault.stands()) {
            forgetProgram();
        } else {
            types.keep();
        }
        return fault.number;
    }

    /** The position of the error of the latest compile or ask, or -1. */
    public int errorAt() {
        return fault.place;
    }

    /** How many types, constructors, definitions, bytes of tape or of paper there are. */
    public int count(int what) throws IndexOutOfBoundsException {
        if (what < 0 || what >= COUNTS) {
            throw new IndexOutOfBoundsException("there is nothing of this number to count");
        }
        return amountOf(what);
    }

    /** Writes the type of a definition on the paper. */
    public int write(int def) throws IndexOutOfBoundsException, IllegalStateException {
        if (!known.hasDefinition(def)) {
            throw new IndexOutOfBoundsException("there is no such definition");
        }
        if (!writer.put(known.typeOfDefinition(def))) {
            throw new IllegalStateException("the type is too long for the paper");
        }
        return writer.size();
    }

    /** Writes the type of a constructor of an item on the paper. */
    public int writeConstructor(int constructor)
            throws IndexOutOfBoundsException, IllegalStateException {
        if (!known.hasItemConstructor(constructor)) {
            throw new IndexOutOfBoundsException("there is no such constructor");
        }
        if (!writer.put(known.typeOfItemConstructor(constructor))) {
            throw new IllegalStateException("the type is too long for the paper");
        }
        return writer.size();
    }

    /** Writes the type of the shortest expression of the program round a place. */
    public int writeAt(int place) throws IndexOutOfBoundsException, IllegalStateException {
        int step = program.shortestAround(place);
        if (step < 0) {
            throw new IndexOutOfBoundsException("no expression is there");
        }
        if (!writer.put(program.typeOf(step))) {
            throw new IllegalStateException("the type is too long for the paper");
        }
        return writer.size();
    }

    /** The byte at a place on the paper. */
    public int byteAt(int k) throws IndexOutOfBoundsException {
        if (k < 0 || k >= writer.size()) {
            throw new IndexOutOfBoundsException("there is no such place on the paper");
        }
        return writer.byteOn(k);
    }

    /** The parts, the different marks, or the order of the type of a definition. */
    public int measure(int def, int what) throws IndexOutOfBoundsException {
        if (!known.hasDefinition(def) || what < 0 || what >= MEASURES) {
            throw new IndexOutOfBoundsException("there is no such definition or measure");
        }
        return measured(def, what);
    }

    /** How often the name of the definition b stands in the expression of a, and means it. */
    public int uses(int a, int b) throws IndexOutOfBoundsException {
        if (!known.hasDefinition(a) || !known.hasDefinition(b)) {
            throw new IndexOutOfBoundsException("there is no such definition");
        }
        return known.timesUsed(a, b);
    }

    /** Whether the type of a becomes that of b, with other types in the places of its marks. */
    public boolean covers(int a, int b) throws IndexOutOfBoundsException {
        if (!known.hasDefinition(a) || !known.hasDefinition(b)) {
            throw new IndexOutOfBoundsException("there is no such definition");
        }
        int wide = types.copy(known.typeOfDefinition(a), false);
        int narrow = types.copy(known.typeOfDefinition(b), true);
        boolean fitting = types.fits(wide, narrow);
        types.dropLoose();
        return fitting;
    }

    /** Writes the most general type that the types of both definitions cover. */
    public int meet(int a, int b) throws IndexOutOfBoundsException, IllegalStateException {
        if (!known.hasDefinition(a) || !known.hasDefinition(b)) {
            throw new IndexOutOfBoundsException("there is no such definition");
        }
        int one = types.copy(known.typeOfDefinition(a), false);
        int other = types.copy(known.typeOfDefinition(b), false);
        boolean written = true;
        if (types.fits(one, other)) {
            written = writer.put(one);
        } else {
            writer.wipe();
        }
        types.dropLoose();
        if (!written) {
            throw new IllegalStateException("the type is too long for the paper");
        }
        return writer.size();
    }

    /** Reads the tape as an expression and writes its type; returns 0 or the error. */
    public int ask() {
        fault.clear();
        tokens.read(tapeSize);
        tapeSize = 0;
        int root = parser.readQuestion(question);
        checker.run(question);
        if (!fault.stands() && !writer.put(question.typeOf(root))) {
            fault.tell(Fault.TOO_BIG, tokens.placeOf(0));
        }
        types.dropLoose();
        return fault.number;
    }

    /** The mean of the parts of the types of all definitions; 0 if there are none. */
    public double meanParts() {
        int definitions = known.definitions();
        if (definitions == 0) {
            return 0.0;
        }
        long sum = 0;
        for (int def = 0; def < definitions; def++) {
            sum += measured(def, 0);
        }
        return (double) sum / definitions;
    }

    /** A checksum of all that the counts, the measures, the uses and the paper tell. */
    public long digest() {
        long d = 409;
        for (int what = 0; what < COUNTS; what++) {
            d = d * 31 + amountOf(what);
        }
        int definitions = known.definitions();
        for (int def = 0; def < definitions; def++) {
            for (int what = 0; what < MEASURES; what++) {
                d = d * 31 + measured(def, what);
            }
            for (int other = 0; other < definitions; other++) {
                d = d * 31 + known.timesUsed(def, other);
            }
        }
        for (int k = 0; k < writer.size(); k++) {
            d = d * 31 + writer.byteOn(k);
        }
        return d;
    }

    private void append(int fourBytes) {
        for (int shift = 24; shift >= 0; shift -= 8) {
            if (tapeSize < TAPE_BYTES) {
                tape[tapeSize] = (byte) (fourBytes >> shift);
                tapeSize++;
            }
        }
    }

    private void forgetProgram() {
        program.clear();
        known.forgetItems();
    }

    private int amountOf(int what) {
        switch (what) {
            case 0:
                return known.itemTypes();
            case 1:
                return known.itemConstructors();
            case 2:
                return known.definitions();
            case 3:
                return tapeSize;
            default:
                return writer.size();
        }
    }

    private int measured(int def, int what) {
        int type = known.typeOfDefinition(def);
        switch (what) {
            case 0:
                return types.partsOf(type);
            case 1:
                return types.marksOf(type);
            default:
                return types.rankOf(type);
        }
    }

    /** The first error of a text: its number and its position. */
    private static final class Fault {
        static final int FORM = 1;
        static final int NOT_KNOWN = 2;
        static final int TWICE = 3;
        static final int TOO_MANY = 4;
        static final int NOT_FITTING = 5;
        static final int OTHER_NUMBER = 6;
        static final int CHOSEN_TWICE = 7;
        static final int OTHER_THAN_FORM = 8;
        static final int TOO_BIG = 9;

        int number;
        int place = -1;

        void clear() {
            number = 0;
            place = -1;
        }

        boolean stands() {
            return number != 0;
        }

        void tell(int error, int where) {
            if (number == 0) {
                number = error;
                place = where;
            }
        }
    }

    /**
     * The tokens of a text. The row ends with FINISH, or with BAD at the first byte with which no
     * token can be read. A symbol of one byte has this byte as its kind, a keyword its place in
     * KEYWORDS.
     */
    private static final class Tokens {
        static final int MOST = 300;
        static final int TYPE = 0;
        static final int DEF = 1;
        static final int LET = 2;
        static final int IN = 3;
        static final int FUN = 4;
        static final int IF = 5;
        static final int THEN = 6;
        static final int ELSE = 7;
        static final int CASE = 8;
        static final int OF = 9;
        static final int END = 10;
        static final int TRUE = 11;
        static final int FALSE = 12;
        static final int NAME = 13;
        static final int CAPITAL = 14;
        static final int MARK = 15;
        static final int NUMBER = 16;
        static final int ARROW = 17;
        static final int FINISH = 18;
        static final int BAD = 19;

        private static final int KEYWORD_COUNT = 13;
        private static final int LONGEST_WORD = 8;
        private static final int LONGEST_NUMBER = 4;
        private static final String KEYWORDS =
                "type def let in fun if then else case of end true false ";
        private static final String SYMBOLS = "(),;:=|+-*<";

        private final byte[] text;
        private final long[] keywords = new long[KEYWORD_COUNT];
        private final int[] kinds = new int[MOST + 1];
        private final int[] firsts = new int[MOST + 1];
        private final int[] lasts = new int[MOST + 1];
        private final long[] keys = new long[MOST + 1];
        private int textSize;
        private int size;

        Tokens(byte[] tape) {
            text = tape;
            int word = 0;
            for (int k = 0; k < KEYWORDS.length(); k++) {
                if (KEYWORDS.charAt(k) == ' ') {
                    word++;
                } else if (word < KEYWORD_COUNT) {
                    keywords[word] = keywords[word] << 8 | KEYWORDS.charAt(k);
                }
            }
        }

        void read(int length) {
            textSize = Math.min(Math.max(length, 0), text.length);
            size = 0;
            int place = 0;
            boolean more = true;
            for (int n = 0; n <= MOST && more; n++) {
                place = readToken(pastBlanks(place));
                more = kindOf(n) != FINISH && kindOf(n) != BAD;
            }
        }

        int kindOf(int token) {
            return token >= 0 && token < size ? kinds[token] : BAD;
        }

        int placeOf(int token) {
            return token >= 0 && token < size ? firsts[token] : textSize;
        }

        int lastOf(int token) {
            return token >= 0 && token < size ? lasts[token] : textSize;
        }

        /** The bytes of a word or capital as one number; of a mark its letter. */
        long keyOf(int token) {
            return token >= 0 && token < size ? keys[token] : 0;
        }

        private int readToken(int place) {
            int first = byteOf(place);
            if (first < 0) {
                return add(FINISH, place, place + 1, 0);
            }
            if (size >= MOST) {
                return add(BAD, place, place + 1, 0);
            }
            if (isSmall(first) || isGreat(first)) {
                return readWord(place, isSmall(first) ? NAME : CAPITAL);
            }
            if (isDigit(first)) {
                return readNumber(place);
            }
            if (first == '\'') {
                int letter = byteOf(place + 1);
                return add(isSmall(letter) ? MARK : BAD, place, place + 2, letter);
            }
            return readSymbol(place, first);
        }

        private int readWord(int place, int kind) {
            int end = place;
            long key = 0;
            for (; end < textSize && (end == place || isSmall(byteOf(end)) || isDigit(byteOf(end))); end++) {
                key = key << 8 | byteOf(end);
            }
            if (end - place > LONGEST_WORD) {
                return add(BAD, place, end, 0);
            }
            return add(kind == NAME ? kindOfWord(key) : kind, place, end, key);
        }

        private int kindOfWord(long key) {
            for (int k = 0; k < KEYWORD_COUNT; k++) {
                if (keywords[k] == key) {
                    return k;
                }
            }
            return NAME;
        }

        private int readNumber(int place) {
            int end = place;
            while (end < textSize && isDigit(byteOf(end))) {
                end++;
            }
            return add(end - place > LONGEST_NUMBER ? BAD : NUMBER, place, end, 0);
        }

        private int readSymbol(int place, int first) {
            if (first == '-' && byteOf(place + 1) == '>') {
                return add(ARROW, place, place + 2, 0);
            }
            int kind = first < 128 && SYMBOLS.indexOf((char) first) >= 0 ? first : BAD;
            return add(kind, place, place + 1, 0);
        }

        private int add(int kind, int place, int end, long key) {
            if (size <= MOST) {
                kinds[size] = kind;
                firsts[size] = place;
                lasts[size] = end - 1;
                keys[size] = key;
                size++;
            }
            return end;
        }

        private int pastBlanks(int place) {
            int at = place;
            while (at < textSize && (byteOf(at) == ' ' || byteOf(at) == '\n')) {
                at++;
            }
            return at;
        }

        private int byteOf(int place) {
            return place >= 0 && place < textSize ? text[place] & 255 : -1;
        }

        private static boolean isSmall(int b) {
            return b >= 'a' && b <= 'z';
        }

        private static boolean isGreat(int b) {
            return b >= 'A' && b <= 'Z';
        }

        private static boolean isDigit(int b) {
            return b >= '0' && b <= '9';
        }
    }

    /**
     * A text of good form, as a row of steps in the order in which its meaning is looked at. What
     * stands in a, b and c is told behind each kind: a token, a step, or how many. The steps from
     * FIRST_EXPRESSION on are expressions; these alone have a place in the text and a type.
     */
    private static final class Steps {
        static final int TYPE_HEAD = 0; // a: the token "type"
        static final int TYPE_MARK = 1; // a: the mark
        static final int CONSTRUCTOR = 2; // a: the capital
        static final int PART = 3; // a: its first token, b: parts ahead of it
        static final int CONSTRUCTOR_END = 4; // a: how many parts
        static final int FORM_MARK = 5; // a: the mark
        static final int FORM_NAME = 6; // a: the name
        static final int FORM_USE = 7; // a: the name, b: how many parts
        static final int FORM_PAIR = 8;
        static final int FORM_ARROWS = 9; // a: how many arrows
        static final int DEF_HEAD = 10; // a: the token "def"
        static final int DEF_FORM = 11; // a: the first token of the form
        static final int DEF_END = 12; // a: the expression, b: the token "def"
        static final int NEED_INT = 13; // a: the expression
        static final int NEED_BOOL = 14; // a: the expression
        static final int BIND_FUN = 15; // a: the name
        static final int BIND_LET = 16; // a: the expression that is named, b: the name
        static final int CHOICE = 17; // a: what is looked at, b: the capital, c: the choice ahead
        static final int CHOICE_END = 18; // a: the expression, b: that of the first, c: how many names
        static final int NUMBER = 19;
        static final int TRUTH = 20;
        static final int NAME = 21; // a: the name
        static final int CAPITAL = 22; // a: the capital
        static final int PAREN = 23; // a: the expression
        static final int PAIR = 24; // a, b: both expressions
        static final int CALL = 25; // a, b: the function and what it is given
        static final int SUM = 26; // a, b: both sides, also those of a product
        static final int LESS = 27; // a, b: both sides
        static final int EQUAL = 28; // a, b: both sides
        static final int IF = 29; // a, b: what stands behind then and else
        static final int FUN = 30; // a: the expression, b: how many names
        static final int LET = 31; // a: the expression behind in
        static final int CASE = 32; // a: the expression of the first choice
        static final int FIRST_EXPRESSION = NUMBER;

        // No token makes more than three steps.
        private static final int MOST = 1024;

        private final int[] kinds = new int[MOST];
        private final int[] as = new int[MOST];
        private final int[] bs = new int[MOST];
        private final int[] cs = new int[MOST];
        private final int[] firsts = new int[MOST];
        private final int[] lasts = new int[MOST];
        private final int[] types = new int[MOST];
        private int size;

        void clear() {
            size = 0;
        }

        int size() {
            return size;
        }

        int add(int kind, int a, int b, int c) {
            if (size >= MOST) {
                return -1;
            }
            kinds[size] = kind;
            as[size] = a;
            bs[size] = b;
            cs[size] = c;
            types[size] = Types.NONE;
            firsts[size] = 0;
            lasts[size] = -1;
            size++;
            return size - 1;
        }

        void setSpan(int step, int first, int last) {
            if (has(step)) {
                firsts[step] = first;
                lasts[step] = last;
            }
        }

        void setType(int step, int type) {
            if (has(step)) {
                types[step] = type;
            }
        }

        int kindOf(int step) {
            return has(step) ? kinds[step] : -1;
        }

        int aOf(int step) {
            return has(step) ? as[step] : -1;
        }

        int bOf(int step) {
            return has(step) ? bs[step] : -1;
        }

        int cOf(int step) {
            return has(step) ? cs[step] : -1;
        }

        int firstOf(int step) {
            return has(step) ? firsts[step] : 0;
        }

        int typeOf(int step) {
            return has(step) ? types[step] : Types.NONE;
        }

        /** The shortest expression to which a place belongs, or -1. */
        int shortestAround(int place) {
            int best = -1;
            int length = Integer.MAX_VALUE;
            for (int n = 0; n < size; n++) {
                boolean around = kinds[n] >= FIRST_EXPRESSION && firsts[n] <= place && place <= lasts[n];
                if (around && lasts[n] - firsts[n] < length) {
                    best = n;
                    length = lasts[n] - firsts[n];
                }
            }
            return best;
        }

        private boolean has(int step) {
            return step >= 0 && step < size;
        }
    }

    /**
     * Looks at the form of a text and tells it as steps. Behind the first error every token is
     * BAD, so that all loops end and all methods return without reading on.
     */
    private static final class Parser {
        private static final int DEEPEST = 12;

        private final Tokens tokens;
        private final Fault fault;
        private Steps steps;
        private int next;

        Parser(Tokens tokens, Fault fault, Steps steps) {
            this.tokens = tokens;
            this.fault = fault;
            this.steps = steps;
        }

        void readProgram(Steps into) {
            start(into);
            item();
            for (int n = 0; n < Tokens.MOST && !fault.stands() && kind() != Tokens.FINISH; n++) {
                item();
            }
            take(Tokens.FINISH);
        }

        /** Returns the step of the whole expression. */
        int readQuestion(Steps into) {
            start(into);
            int root = expression(0);
            take(Tokens.FINISH);
            return root;
        }

        private void start(Steps into) {
            steps = into;
            steps.clear();
            next = 0;
        }

        private int kind() {
            return fault.stands() ? Tokens.BAD : tokens.kindOf(next);
        }

        private void fail() {
            fault.tell(Fault.FORM, tokens.placeOf(next));
        }

        private void take(int wanted) {
            if (kind() == wanted) {
                next++;
            } else {
                fail();
            }
        }

        private int add(int kind, int a, int b, int c) {
            return steps.add(kind, a, b, c);
        }

        /** Adds an expression that ends ahead of the next token. */
        private int addExpression(int kind, int a, int b, int firstToken) {
            int step = add(kind, a, b, 0);
            steps.setSpan(step, tokens.placeOf(firstToken), tokens.lastOf(next - 1));
            return step;
        }

        private void item() {
            if (kind() == Tokens.TYPE) {
                typeItem();
            } else if (kind() == Tokens.DEF) {
                definition();
            } else {
                fail();
            }
        }

        private void typeItem() {
            add(Steps.TYPE_HEAD, next, 0, 0);
            take(Tokens.TYPE);
            take(Tokens.NAME);
            for (int n = 0; n < Tokens.MOST && kind() == Tokens.MARK; n++) {
                add(Steps.TYPE_MARK, next, 0, 0);
                take(Tokens.MARK);
            }
            take('=');
            constructor();
            for (int n = 0; n < Tokens.MOST && kind() == '|'; n++) {
                take('|');
                constructor();
            }
            take(';');
        }

        private void constructor() {
            add(Steps.CONSTRUCTOR, next, 0, 0);
            take(Tokens.CAPITAL);
            int parts = 0;
            for (; parts < Tokens.MOST && startsPart(); parts++) {
                add(Steps.PART, next, parts, 0);
                part(0);
            }
            add(Steps.CONSTRUCTOR_END, parts, 0, 0);
        }

        private void definition() {
            int head = next;
            add(Steps.DEF_HEAD, head, 0, 0);
            take(Tokens.DEF);
            take(Tokens.NAME);
            if (kind() == ':') {
                take(':');
                int first = next;
                form(0);
                add(Steps.DEF_FORM, first, 0, 0);
            }
            take('=');
            int root = expression(0);
            take(';');
            add(Steps.DEF_END, root, head, 0);
        }

        private void form(int depth) {
            if (depth > DEEPEST) {
                fail();
                return;
            }
            formPair(depth);
            int arrows = 0;
            for (; arrows < Tokens.MOST && kind() == Tokens.ARROW; arrows++) {
                take(Tokens.ARROW);
                formPair(depth);
            }
            add(Steps.FORM_ARROWS, arrows, 0, 0);
        }

        private void formPair(int depth) {
            formUse(depth);
            if (kind() == '*') {
                take('*');
                formUse(depth);
                add(Steps.FORM_PAIR, 0, 0, 0);
            }
        }

        private void formUse(int depth) {
            if (kind() != Tokens.NAME) {
                part(depth);
                return;
            }
            int name = next;
            add(Steps.FORM_NAME, name, 0, 0);
            take(Tokens.NAME);
            int parts = 0;
            for (; parts < Tokens.MOST && startsPart(); parts++) {
                part(depth);
            }
            add(Steps.FORM_USE, name, parts, 0);
        }

        private boolean startsPart() {
            return kind() == Tokens.MARK || kind() == Tokens.NAME || kind() == '(';
        }

        private void part(int depth) {
            if (kind() == Tokens.MARK) {
                add(Steps.FORM_MARK, next, 0, 0);
                take(Tokens.MARK);
            } else if (kind() == Tokens.NAME) {
                add(Steps.FORM_NAME, next, 0, 0);
                add(Steps.FORM_USE, next, 0, 0);
                take(Tokens.NAME);
            } else {
                take('(');
                form(depth + 1);
                take(')');
            }
        }

        private int expression(int depth) {
            if (depth > DEEPEST) {
                fail();
                return -1;
            }
            switch (kind()) {
                case Tokens.LET:
                    return let(depth);
                case Tokens.FUN:
                    return fun(depth);
                case Tokens.IF:
                    return condition(depth);
                case Tokens.CASE:
                    return cases(depth);
                default:
                    return relation(depth);
            }
        }

        private int let(int depth) {
            int first = next;
            take(Tokens.LET);
            int name = next;
            take(Tokens.NAME);
            take('=');
            int named = expression(depth + 1);
            add(Steps.BIND_LET, named, name, 0);
            take(Tokens.IN);
            int body = expression(depth + 1);
            return addExpression(Steps.LET, body, 0, first);
        }

        private int fun(int depth) {
            int first = next;
            take(Tokens.FUN);
            int names = 0;
            do {
                add(Steps.BIND_FUN, next, 0, 0);
                take(Tokens.NAME);
                names++;
            } while (names < Tokens.MOST && kind() == Tokens.NAME);
            take(Tokens.ARROW);
            int body = expression(depth + 1);
            return addExpression(Steps.FUN, body, names, first);
        }

        private int condition(int depth) {
            int first = next;
            take(Tokens.IF);
            int test = expression(depth + 1);
            add(Steps.NEED_BOOL, test, 0, 0);
            take(Tokens.THEN);
            int one = expression(depth + 1);
            take(Tokens.ELSE);
            int other = expression(depth + 1);
            return addExpression(Steps.IF, one, other, first);
        }

        private int cases(int depth) {
            int first = next;
            take(Tokens.CASE);
            int looked = expression(depth + 1);
            take(Tokens.OF);
            int choice = choice(depth, looked, -1, -1);
            int result = steps.aOf(steps.size() - 1);
            for (int n = 0; n < Tokens.MOST && kind() == '|'; n++) {
                take('|');
                choice = choice(depth, looked, choice, result);
            }
            take(Tokens.END);
            return addExpression(Steps.CASE, result, 0, first);
        }

        /** Returns the step of the choice; the last step added tells its expression. */
        private int choice(int depth, int looked, int ahead, int result) {
            int step = add(Steps.CHOICE, looked, next, ahead);
            take(Tokens.CAPITAL);
            int names = 0;
            for (; names < Tokens.MOST && kind() == Tokens.NAME; names++) {
                take(Tokens.NAME);
            }
            take(Tokens.ARROW);
            int body = expression(depth + 1);
            add(Steps.CHOICE_END, body, result, names);
            return step;
        }

        private int relation(int depth) {
            int first = next;
            int left = sum(depth);
            if (kind() == '=') {
                take('=');
                int right = sum(depth);
                return addExpression(Steps.EQUAL, left, right, first);
            }
            if (kind() == '<') {
                take('<');
                add(Steps.NEED_INT, left, 0, 0);
                int right = sum(depth);
                return addExpression(Steps.LESS, left, right, first);
            }
            return left;
        }

        private int sum(int depth) {
            int first = next;
            int left = product(depth);
            for (int n = 0; n < Tokens.MOST && (kind() == '+' || kind() == '-'); n++) {
                take(kind());
                add(Steps.NEED_INT, left, 0, 0);
                int right = product(depth);
                left = addExpression(Steps.SUM, left, right, first);
            }
            return left;
        }

        private int product(int depth) {
            int first = next;
            int left = call(depth);
            for (int n = 0; n < Tokens.MOST && kind() == '*'; n++) {
                take('*');
                add(Steps.NEED_INT, left, 0, 0);
                int right = call(depth);
                left = addExpression(Steps.SUM, left, right, first);
            }
            return left;
        }

        private int call(int depth) {
            int first = next;
            int function = atom(depth);
            for (int n = 0; n < Tokens.MOST && startsAtom(); n++) {
                int given = atom(depth);
                function = addExpression(Steps.CALL, function, given, first);
            }
            return function;
        }

        private boolean startsAtom() {
            switch (kind()) {
                case Tokens.NUMBER:
                case Tokens.NAME:
                case Tokens.CAPITAL:
                case Tokens.TRUE:
                case Tokens.FALSE:
                case '(':
                    return true;
                default:
                    return false;
            }
        }

        private int atom(int depth) {
            int token = next;
            switch (kind()) {
                case Tokens.NUMBER:
                    return single(Steps.NUMBER, token);
                case Tokens.NAME:
                    return single(Steps.NAME, token);
                case Tokens.CAPITAL:
                    return single(Steps.CAPITAL, token);
                case Tokens.TRUE:
                case Tokens.FALSE:
                    return single(Steps.TRUTH, token);
                case '(':
                    return bracket(depth);
                default:
                    fail();
                    return -1;
            }
        }

        private int single(int kind, int token) {
            take(kind());
            return addExpression(kind, token, 0, token);
        }

        private int bracket(int depth) {
            int first = next;
            take('(');
            int left = expression(depth + 1);
            if (kind() == ',') {
                take(',');
                int right = expression(depth + 1);
                take(')');
                return addExpression(Steps.PAIR, left, right, first);
            }
            take(')');
            return addExpression(Steps.PAREN, left, 0, first);
        }
    }

    /**
     * All types, as nodes with up to three kids each; equal parts may be one node. A node is a
     * number. What is unknown and became known is linked to what it became. A mark fits nothing
     * but itself; where a type is used as a general one, it is copied with its marks unknown.
     */
    private static final class Types {
        static final int NONE = 0;
        static final int INT = 1;
        static final int BOOL = 2;
        static final int UNKNOWN = 3;
        static final int MARK = 4;
        static final int PAIR = 5;
        static final int FUNCTION = 6;
        static final int NAMED = 7; // and the number of the type

        static final int KIDS = 3;
        private static final int FIRST_ROOM = 512;
        // Three hundred tokens with types of 120 parts stay far below this.
        private static final int MOST = 1 << 17;
        private static final int VERY_MANY = 1000000;

        private int[] tags = new int[FIRST_ROOM];
        private int[] kids = new int[FIRST_ROOM * KIDS];
        private int[] links = new int[FIRST_ROOM];
        private int[] seen = new int[FIRST_ROOM];
        private int[] notes = new int[FIRST_ROOM];
        private int[] order = new int[FIRST_ROOM];
        private int[] path = new int[FIRST_ROOM];
        private int room = FIRST_ROOM;
        private int used;
        private int frozen;
        private int gathered;
        private int round;

        Types() {
            tags[INT] = INT;
            tags[BOOL] = BOOL;
            links[INT] = INT;
            links[BOOL] = BOOL;
            used = BOOL + 1;
            frozen = used;
        }

        int make(int tag, int first, int second, int third) {
            if (used >= room && room < MOST) {
                room = room * 2;
                tags = Arrays.copyOf(tags, room);
                kids = Arrays.copyOf(kids, room * KIDS);
                links = Arrays.copyOf(links, room);
                seen = Arrays.copyOf(seen, room);
                notes = Arrays.copyOf(notes, room);
                order = Arrays.copyOf(order, room);
                path = Arrays.copyOf(path, room);
            }
            if (used >= room) {
                return NONE;
            }
            int node = used;
            used++;
            tags[node] = tag;
            links[node] = node;
            seen[node] = 0;
            notes[node] = 0;
            kids[node * KIDS] = first;
            kids[node * KIDS + 1] = second;
            kids[node * KIDS + 2] = third;
            return node;
        }

        int unknown() {
            return make(UNKNOWN, NONE, NONE, NONE);
        }

        int mark() {
            return make(MARK, NONE, NONE, NONE);
        }

        int pair(int left, int right) {
            return make(PAIR, left, right, NONE);
        }

        int function(int from, int to) {
            return make(FUNCTION, from, to, NONE);
        }

        /** How many nodes there are; cut takes the nodes behind such a number away. */
        int extent() {
            return used;
        }

        void cut(int extent) {
            if (extent > BOOL && extent <= used) {
                used = extent;
                frozen = extent;
            }
        }

        /** All nodes of now stay as they are: from here on they are copied before they are fitted. */
        void keep() {
            frozen = used;
        }

        void dropLoose() {
            used = frozen;
        }

        int find(int node) {
            if (node <= NONE || node >= used) {
                return NONE;
            }
            int end = node;
            for (int n = 0; n < used && links[end] != end; n++) {
                end = links[end];
            }
            int at = node;
            for (int n = 0; n < used && at != end; n++) {
                int behind = links[at];
                links[at] = end;
                at = behind;
            }
            return end;
        }

        int tagOf(int node) {
            return tags[find(node)];
        }

        int kidOf(int node, int which) {
            return which < 0 || which >= KIDS ? NONE : find(kids[find(node) * KIDS + which]);
        }

        int noteOf(int node) {
            return notes[find(node)];
        }

        void setNote(int node, int note) {
            notes[find(node)] = note;
        }

        /** Makes both types the same, if they can be. */
        boolean fits(int a, int b) {
            int waiting = join(a, b, 0);
            for (int n = 0; n < used && waiting > 0; n++) {
                waiting--;
                int node = order[waiting];
                int other = find(node);
                for (int k = 0; k < KIDS && waiting >= 0; k++) {
                    waiting = join(kids[node * KIDS + k], kids[other * KIDS + k], waiting);
                }
            }
            if (waiting != 0) {
                return false;
            }
            begin();
            return gather(a);
        }

        /** Links two nodes; if their kids have to be joined, too, one more waits. -1: they differ. */
        private int join(int a, int b, int waiting) {
            int x = find(a);
            int y = find(b);
            if (x == y) {
                return waiting;
            }
            if (tags[x] == UNKNOWN) {
                links[x] = y;
                return waiting;
            }
            if (tags[y] == UNKNOWN) {
                links[y] = x;
                return waiting;
            }
            if (tags[x] != tags[y] || tags[x] == MARK || waiting >= room) {
                return -1;
            }
            int newer = Math.max(x, y);
            links[newer] = Math.min(x, y);
            order[waiting] = newer;
            return waiting + 1;
        }

        /** Begins a round: no node is gathered. */
        void begin() {
            round++;
            gathered = 0;
        }

        int gathered() {
            return gathered;
        }

        int gatheredAt(int n) {
            return n >= 0 && n < gathered ? order[n] : NONE;
        }

        /** Gathers what this round has not, kids first; false if a type stands in itself. */
        boolean gather(int root) {
            int deep = enter(find(root), 0);
            int turns = (KIDS + 1) * used;
            for (int n = 0; n < turns && deep > 0; n++) {
                int node = path[deep - 1];
                int turn = notes[node];
                if (turn >= KIDS) {
                    seen[node] = 2 * round + 1;
                    order[gathered] = node;
                    gathered++;
                    deep--;
                } else {
                    notes[node] = turn + 1;
                    int kid = find(kids[node * KIDS + turn]);
                    if (seen[kid] == 2 * round) {
                        return false;
                    }
                    deep = enter(kid, deep);
                }
            }
            return true;
        }

        private int enter(int node, int deep) {
            if (node == NONE || seen[node] >= 2 * round || deep >= room) {
                return deep;
            }
            seen[node] = 2 * round;
            notes[node] = 0;
            path[deep] = node;
            return deep + 1;
        }

        /** What is unknown in the type, and was not gathered in this round, becomes a mark. */
        void markUnknown(int root) {
            int from = gathered;
            gather(root);
            for (int n = from; n < gathered; n++) {
                if (tags[order[n]] == UNKNOWN) {
                    tags[order[n]] = MARK;
                }
            }
        }

        /** A type that can be fitted without a change of this one; marks become unknown or stay. */
        int copy(int root, boolean marksStay) {
            begin();
            gather(root);
            for (int n = 0; n < gathered; n++) {
                int twin = twinOf(order[n], marksStay);
                notes[order[n]] = twin;
            }
            return noteOf(root);
        }

        private int twinOf(int node, boolean marksStay) {
            int tag = tags[node];
            if (tag == INT || tag == BOOL || tag == UNKNOWN || tag == MARK && marksStay) {
                return node;
            }
            if (tag == MARK) {
                return make(UNKNOWN, NONE, NONE, NONE);
            }
            int first = noteOfKid(node, 0);
            int second = noteOfKid(node, 1);
            int third = noteOfKid(node, 2);
            boolean same = first == kidOf(node, 0) && second == kidOf(node, 1) && third == kidOf(node, 2);
            return same && node >= frozen ? node : make(tag, first, second, third);
        }

        /** The note of a part of a node that was gathered. */
        private int noteOfKid(int node, int which) {
            int kid = find(kids[node * KIDS + which]);
            return kid == NONE ? 0 : notes[kid];
        }

        /** How many parts the type has when it is told in full; a great number stays a great one. */
        int partsOf(int root) {
            begin();
            gather(root);
            for (int n = 0; n < gathered; n++) {
                int node = order[n];
                int parts = 1 + noteOfKid(node, 0) + noteOfKid(node, 1) + noteOfKid(node, 2);
                notes[node] = Math.min(parts, VERY_MANY);
            }
            return noteOf(root);
        }

        int marksOf(int root) {
            begin();
            gather(root);
            int marks = 0;
            for (int n = 0; n < gathered; n++) {
                int tag = tags[order[n]];
                marks += tag == MARK || tag == UNKNOWN ? 1 : 0;
            }
            return marks;
        }

        /** What the document calls the order of a type. */
        int rankOf(int root) {
            begin();
            gather(root);
            for (int n = 0; n < gathered; n++) {
                int node = order[n];
                int first = noteOfKid(node, 0) + (tags[node] == FUNCTION ? 1 : 0);
                int rest = Math.max(noteOfKid(node, 1), noteOfKid(node, 2));
                notes[node] = Math.max(first, rest);
            }
            return noteOf(root);
        }
    }

    /** What a program, and the language itself, make known: types, constructors, definitions. */
    private static final class Known {
        static final int NOT_THERE = -1;
        static final int LIST = 2;
        private static final int BASIC_TYPES = 3;
        private static final int ITEM_TYPES = 6;
        private static final int BASIC_CONSTRUCTORS = 2;
        private static final int ITEM_CONSTRUCTORS = 24;
        private static final int DEFINITIONS = 24;
        private static final long FST = 0x667374;
        private static final long SND = 0x736e64;

        private final Types types;
        private final long[] typeKeys = new long[BASIC_TYPES + ITEM_TYPES];
        private final int[] typeMarks = new int[BASIC_TYPES + ITEM_TYPES];
        private final long[] constructorKeys = new long[BASIC_CONSTRUCTORS + ITEM_CONSTRUCTORS];
        private final int[] constructorTypes = new int[BASIC_CONSTRUCTORS + ITEM_CONSTRUCTORS];
        private final int[] constructorParts = new int[BASIC_CONSTRUCTORS + ITEM_CONSTRUCTORS];
        private final long[] definitionKeys = new long[DEFINITIONS];
        private final int[] definitionTypes = new int[DEFINITIONS];
        private final int[] used = new int[DEFINITIONS * DEFINITIONS];
        private final int fst;
        private final int snd;
        private final int bottom;
        private int typeCount;
        private int constructorCount;
        private int definitionCount;

        Known(Types types) {
            this.types = types;
            typeKeys[0] = keyOf("int");
            typeKeys[1] = keyOf("bool");
            typeKeys[LIST] = keyOf("list");
            typeMarks[LIST] = 1;
            int element = types.mark();
            int list = types.make(Types.NAMED + LIST, element, Types.NONE, Types.NONE);
            constructorKeys[0] = keyOf("Nil");
            constructorTypes[0] = list;
            constructorKeys[1] = keyOf("Cons");
            constructorTypes[1] = types.function(element, types.function(list, list));
            constructorParts[1] = 2;
            int left = types.mark();
            int right = types.mark();
            fst = types.function(types.pair(left, right), left);
            snd = types.function(types.pair(left, right), right);
            types.keep();
            bottom = types.extent();
            typeCount = BASIC_TYPES;
            constructorCount = BASIC_CONSTRUCTORS;
        }

        private static long keyOf(String word) {
            long key = 0;
            for (int k = 0; k < word.length(); k++) {
                key = key << 8 | word.charAt(k);
            }
            return key;
        }

        void forgetItems() {
            types.cut(bottom);
            typeCount = BASIC_TYPES;
            constructorCount = BASIC_CONSTRUCTORS;
            definitionCount = 0;
            Arrays.fill(used, 0);
        }

        int itemTypes() {
            return typeCount - BASIC_TYPES;
        }

        int itemConstructors() {
            return constructorCount - BASIC_CONSTRUCTORS;
        }

        int definitions() {
            return definitionCount;
        }

        boolean typesFull() {
            return typeCount >= typeKeys.length;
        }

        boolean constructorsFull() {
            return constructorCount >= constructorKeys.length;
        }

        boolean definitionsFull() {
            return definitionCount >= DEFINITIONS;
        }

        int typeNumber(long key) {
            return placeOf(typeKeys, typeCount, key);
        }

        int constructorNumber(long key) {
            return placeOf(constructorKeys, constructorCount, key);
        }

        int definitionNumber(long key) {
            return placeOf(definitionKeys, definitionCount, key);
        }

        private static int placeOf(long[] keys, int size, long key) {
            for (int n = 0; n < size && n < keys.length; n++) {
                if (keys[n] == key) {
                    return n;
                }
            }
            return NOT_THERE;
        }

        void addType(long key) {
            if (!typesFull()) {
                typeKeys[typeCount] = key;
                typeMarks[typeCount] = 0;
                typeCount++;
            }
        }

        int latestType() {
            return typeCount - 1;
        }

        void addMarkToLatestType() {
            if (typeCount > BASIC_TYPES && typeCount <= typeMarks.length) {
                typeMarks[typeCount - 1]++;
            }
        }

        int marksOfType(int number) {
            return number >= 0 && number < typeCount ? typeMarks[number] : 0;
        }

        long keyOfType(int number) {
            return number >= 0 && number < typeCount ? typeKeys[number] : 0;
        }

        void addConstructor(long key, int type, int parts) {
            if (!constructorsFull()) {
                constructorKeys[constructorCount] = key;
                constructorTypes[constructorCount] = type;
                constructorParts[constructorCount] = parts;
                constructorCount++;
            }
        }

        int typeOfConstructor(int number) {
            return number >= 0 && number < constructorCount ? constructorTypes[number] : Types.NONE;
        }

        int partsOfConstructor(int number) {
            return number >= 0 && number < constructorCount ? constructorParts[number] : 0;
        }

        boolean hasItemConstructor(int number) {
            return number >= 0 && number < itemConstructors();
        }

        int typeOfItemConstructor(int number) {
            return hasItemConstructor(number) ? constructorTypes[number + BASIC_CONSTRUCTORS] : Types.NONE;
        }

        void addDefinition(long key, int type) {
            if (!definitionsFull()) {
                definitionKeys[definitionCount] = key;
                definitionTypes[definitionCount] = type;
                definitionCount++;
            }
        }

        boolean hasDefinition(int number) {
            return number >= 0 && number < definitionCount;
        }

        int typeOfDefinition(int number) {
            return hasDefinition(number) ? definitionTypes[number] : Types.NONE;
        }

        /** The type of fst or snd, or NONE. */
        int typeOfBasicName(long key) {
            return key == FST ? fst : key == SND ? snd : Types.NONE;
        }

        void addUse(int user, int named) {
            if (user >= 0 && user < DEFINITIONS && named >= 0 && named < DEFINITIONS) {
                used[user * DEFINITIONS + named]++;
            }
        }

        int timesUsed(int user, int named) {
            return hasDefinition(user) && hasDefinition(named) ? used[user * DEFINITIONS + named] : 0;
        }
    }

    /** Looks at the meaning of type items and of forms. */
    private static final class Forms {
        private static final int MOST_MARKS = 3;
        private static final int MOST_PARTS = 3;
        private static final int LETTERS = 26;

        private final Tokens tokens;
        private final Types types;
        private final Known known;
        private final Fault fault;
        private final int[] markNodes = new int[LETTERS];
        private final int[] itemMarks = new int[MOST_MARKS];
        private final int[] values = new int[Tokens.MOST];
        private int valueCount;
        private int markCount;
        private boolean inItem;
        private long constructorKey;

        Forms(Tokens tokens, Types types, Known known, Fault fault) {
            this.tokens = tokens;
            this.types = types;
            this.known = known;
            this.fault = fault;
        }

        void take(int kind, int a, int b) {
            switch (kind) {
                case Steps.TYPE_HEAD:
                    beginType(a);
                    break;
                case Steps.TYPE_MARK:
                    addMark(a);
                    break;
                case Steps.CONSTRUCTOR:
                    beginConstructor(a);
                    break;
                case Steps.PART:
                    tellIf(b >= MOST_PARTS, Fault.TOO_MANY, a);
                    break;
                case Steps.CONSTRUCTOR_END:
                    endConstructor(a);
                    break;
                case Steps.FORM_MARK:
                    useMark(a);
                    break;
                case Steps.FORM_NAME:
                    tellIf(typeNamed(a) == Known.NOT_THERE, Fault.NOT_KNOWN, a);
                    break;
                case Steps.FORM_USE:
                    useName(a, b);
                    break;
                case Steps.FORM_PAIR:
                    joinPair();
                    break;
                case Steps.FORM_ARROWS:
                    joinArrows(a);
                    break;
                default:
                    break;
            }
        }

        /** Begins the form of a definition, in which all marks are known. */
        void beginForm() {
            forgetMarks();
            inItem = false;
        }

        int takeValue() {
            if (valueCount <= 0) {
                return Types.NONE;
            }
            valueCount--;
            return values[valueCount];
        }

        private void forgetMarks() {
            Arrays.fill(markNodes, Types.NONE);
            Arrays.fill(itemMarks, Types.NONE);
            markCount = 0;
            valueCount = 0;
        }

        private void tellIf(boolean wrong, int error, int token) {
            if (wrong) {
                fault.tell(error, tokens.placeOf(token));
            }
        }

        private int typeNamed(int token) {
            return known.typeNumber(tokens.keyOf(token));
        }

        private int letterOf(int token) {
            return (int) Math.floorMod(tokens.keyOf(token) - 'a', (long) LETTERS);
        }

        private void putValue(int type) {
            if (valueCount < values.length) {
                values[valueCount] = type;
                valueCount++;
            }
        }

        private void beginType(int head) {
            forgetMarks();
            inItem = true;
            tellIf(known.typesFull(), Fault.TOO_MANY, head);
            tellIf(typeNamed(head + 1) != Known.NOT_THERE, Fault.TWICE, head + 1);
            known.addType(tokens.keyOf(head + 1));
        }

        private void addMark(int token) {
            int letter = letterOf(token);
            tellIf(markNodes[letter] != Types.NONE, Fault.TWICE, token);
            tellIf(markCount >= MOST_MARKS, Fault.TOO_MANY, token);
            if (!fault.stands() && markCount < MOST_MARKS) {
                markNodes[letter] = types.mark();
                itemMarks[markCount] = markNodes[letter];
                markCount++;
                known.addMarkToLatestType();
            }
        }

        private void beginConstructor(int token) {
            constructorKey = tokens.keyOf(token);
            tellIf(known.constructorNumber(constructorKey) != Known.NOT_THERE, Fault.TWICE, token);
            tellIf(known.constructorsFull(), Fault.TOO_MANY, token);
        }

        private void endConstructor(int parts) {
            int tag = Types.NAMED + known.latestType();
            int type = types.make(tag, itemMarks[0], itemMarks[1], itemMarks[2]);
            for (int n = 0; n < parts && n < MOST_PARTS; n++) {
                type = types.function(takeValue(), type);
            }
            known.addConstructor(constructorKey, type, parts);
        }

        private void useMark(int token) {
            int letter = letterOf(token);
            if (markNodes[letter] == Types.NONE) {
                tellIf(inItem, Fault.NOT_KNOWN, token);
                markNodes[letter] = types.mark();
            }
            putValue(markNodes[letter]);
        }

        private void useName(int token, int parts) {
            int number = typeNamed(token);
            if (parts != known.marksOfType(number)) {
                fault.tell(Fault.OTHER_NUMBER, tokens.placeOf(token));
                return;
            }
            if (number < Known.LIST) {
                putValue(number == 0 ? Types.INT : Types.BOOL);
                return;
            }
            int third = parts > 2 ? takeValue() : Types.NONE;
            int second = parts > 1 ? takeValue() : Types.NONE;
            int first = parts > 0 ? takeValue() : Types.NONE;
            putValue(types.make(Types.NAMED + number, first, second, third));
        }

        private void joinPair() {
            int right = takeValue();
            int left = takeValue();
            putValue(types.pair(left, right));
        }

        private void joinArrows(int arrows) {
            int type = takeValue();
            for (int n = 0; n < arrows && n < Tokens.MOST; n++) {
                type = types.function(takeValue(), type);
            }
            putValue(type);
        }
    }

    /** The names that let, fun and choices bind around, the nearest one last. */
    private static final class Scope {
        private final long[] keys = new long[Tokens.MOST];
        private final int[] boundTypes = new int[Tokens.MOST];
        private final boolean[] general = new boolean[Tokens.MOST];
        private int size;

        void clear() {
            size = 0;
        }

        void bind(long key, int type, boolean byLet) {
            if (size < keys.length) {
                keys[size] = key;
                boundTypes[size] = type;
                general[size] = byLet;
                size++;
            }
        }

        void unbind(int names) {
            size = Math.max(0, size - Math.max(0, names));
        }

        /** The place of the nearest one with this name, or -1. */
        int nearest(long key) {
            for (int n = size - 1; n >= 0; n--) {
                if (keys[n] == key) {
                    return n;
                }
            }
            return -1;
        }

        int last() {
            return size - 1;
        }

        int typeOf(int place) {
            return place >= 0 && place < size ? boundTypes[place] : Types.NONE;
        }

        boolean isGeneral(int place) {
            return place >= 0 && place < size && general[place];
        }

        /** Gathers the types of all names that a fun or a choice binds, also of hidden ones. */
        void gatherFixed(Types types) {
            for (int n = 0; n < size; n++) {
                if (!general[n]) {
                    types.gather(boundTypes[n]);
                }
            }
        }
    }

    /** Looks at the meaning of a text, step by step, up to the first error. */
    private static final class Checker {
        private static final int MOST_PARTS = 120;
        private static final int NO_DEFINITION = -1;

        private final Tokens tokens;
        private final Types types;
        private final Known known;
        private final Fault fault;
        private final Forms forms;
        private final Scope scope = new Scope();
        private Steps steps;
        private int own;
        private long ownKey;
        private int ownType;
        private int formType;
        private int formToken;

        Checker(Tokens tokens, Known known, Fault fault, Steps steps) {
            this.tokens = tokens;
            this.known = known;
            this.fault = fault;
            this.steps = steps;
            types = known.types;
            forms = new Forms(tokens, types, known, fault);
        }

        /** Looks at nothing if the form has an error. */
        void run(Steps text) {
            steps = text;
            leaveDefinition();
            for (int n = 0; n < text.size() && !fault.stands(); n++) {
                int kind = text.kindOf(n);
                if (kind >= Steps.FIRST_EXPRESSION) {
                    text.setType(n, typeOfExpression(kind, text.aOf(n), text.bOf(n)));
                } else if (kind >= Steps.DEF_HEAD) {
                    takeStep(kind, n);
                } else {
                    forms.take(kind, text.aOf(n), text.bOf(n));
                }
            }
        }

        private void leaveDefinition() {
            scope.clear();
            own = NO_DEFINITION;
            ownType = Types.NONE;
            formType = Types.NONE;
        }

        private void takeStep(int kind, int step) {
            int a = steps.aOf(step);
            switch (kind) {
                case Steps.DEF_HEAD:
                    beginDefinition(a);
                    break;
                case Steps.DEF_FORM:
                    formType = forms.takeValue();
                    formToken = a;
                    break;
                case Steps.DEF_END:
                    endDefinition(a, steps.bOf(step) + 1);
                    break;
                case Steps.NEED_INT:
                    need(a, Types.INT);
                    break;
                case Steps.NEED_BOOL:
                    need(a, Types.BOOL);
                    break;
                case Steps.BIND_FUN:
                    scope.bind(tokens.keyOf(a), types.unknown(), false);
                    break;
                case Steps.BIND_LET:
                    bindLet(a, steps.bOf(step));
                    break;
                case Steps.CHOICE:
                    beginChoice(a, steps.bOf(step), steps.cOf(step));
                    break;
                case Steps.CHOICE_END:
                    endChoice(a, steps.bOf(step), steps.cOf(step));
                    break;
                default:
                    break;
            }
        }

        private void tellAtToken(int error, int token) {
            fault.tell(error, tokens.placeOf(token));
        }

        /** The expression has to fit a type: error 5 at its first token. */
        private void need(int step, int type) {
            if (!types.fits(steps.typeOf(step), type)) {
                fault.tell(Fault.NOT_FITTING, steps.firstOf(step));
            }
        }

        private void beginDefinition(int head) {
            leaveDefinition();
            forms.beginForm();
            ownKey = tokens.keyOf(head + 1);
            if (known.definitionsFull()) {
                tellAtToken(Fault.TOO_MANY, head);
            }
            if (known.definitionNumber(ownKey) != Known.NOT_THERE) {
                tellAtToken(Fault.TWICE, head + 1);
            }
            own = known.definitions();
            ownType = types.unknown();
        }

        private void endDefinition(int root, int name) {
            int found = steps.typeOf(root);
            need(root, ownType);
            if (fault.stands()) {
                return;
            }
            if (formType != Types.NONE && !types.fits(found, formType)) {
                tellAtToken(Fault.OTHER_THAN_FORM, formToken);
                return;
            }
            int type = formType == Types.NONE ? found : formType;
            if (types.partsOf(type) > MOST_PARTS) {
                tellAtToken(Fault.TOO_BIG, name);
                return;
            }
            types.begin();
            types.markUnknown(type);
            known.addDefinition(ownKey, type);
            leaveDefinition();
        }

        private void bindLet(int named, int name) {
            int type = steps.typeOf(named);
            if (types.partsOf(type) > MOST_PARTS) {
                tellAtToken(Fault.TOO_BIG, name);
                return;
            }
            types.begin();
            scope.gatherFixed(types);
            types.gather(ownType);
            types.markUnknown(type);
            scope.bind(tokens.keyOf(name), type, true);
        }

        private void beginChoice(int looked, int capital, int ahead) {
            int number = known.constructorNumber(tokens.keyOf(capital));
            if (number == Known.NOT_THERE) {
                tellAtToken(Fault.NOT_KNOWN, capital);
                return;
            }
            if (isChosenAhead(capital, ahead)) {
                tellAtToken(Fault.CHOSEN_TWICE, capital);
                return;
            }
            int parts = known.partsOfConstructor(number);
            if (namesBehind(capital) != parts) {
                tellAtToken(Fault.OTHER_NUMBER, capital);
                return;
            }
            int whole = types.copy(known.typeOfConstructor(number), false);
            int result = whole;
            for (int n = 0; n < parts; n++) {
                scope.bind(tokens.keyOf(capital + 1 + n), types.kidOf(result, 0), false);
                result = types.kidOf(result, 1);
            }
            if (!types.fits(result, steps.typeOf(looked))) {
                tellAtToken(Fault.NOT_FITTING, capital);
            }
        }

        private boolean isChosenAhead(int capital, int ahead) {
            int choice = ahead;
            for (int n = 0; n < Tokens.MOST && choice >= 0; n++) {
                if (tokens.keyOf(steps.bOf(choice)) == tokens.keyOf(capital)) {
                    return true;
                }
                choice = steps.cOf(choice);
            }
            return false;
        }

        private int namesBehind(int capital) {
            int names = 0;
            while (names < Tokens.MOST && tokens.kindOf(capital + 1 + names) == Tokens.NAME) {
                names++;
            }
            return names;
        }

        private void endChoice(int body, int first, int names) {
            if (first >= 0) {
                need(body, steps.typeOf(first));
            }
            scope.unbind(names);
        }

        private int typeOfExpression(int kind, int a, int b) {
            switch (kind) {
                case Steps.NUMBER:
                    return Types.INT;
                case Steps.TRUTH:
                    return Types.BOOL;
                case Steps.NAME:
                    return typeOfName(a);
                case Steps.CAPITAL:
                    return typeOfCapital(a);
                case Steps.PAIR:
                    return types.pair(steps.typeOf(a), steps.typeOf(b));
                case Steps.CALL:
                    return typeOfCall(a, b);
                case Steps.SUM:
                    need(b, Types.INT);
                    return Types.INT;
                case Steps.LESS:
                    need(b, Types.INT);
                    return Types.BOOL;
                case Steps.EQUAL:
                    need(b, steps.typeOf(a));
                    return Types.BOOL;
                case Steps.IF:
                    need(b, steps.typeOf(a));
                    return steps.typeOf(a);
                case Steps.FUN:
                    return typeOfFun(a, b);
                case Steps.LET:
                    scope.unbind(1);
                    return steps.typeOf(a);
                default:
                    return steps.typeOf(a);
            }
        }

        private int typeOfName(int token) {
            long key = tokens.keyOf(token);
            int bound = scope.nearest(key);
            if (bound >= 0) {
                int type = scope.typeOf(bound);
                return scope.isGeneral(bound) ? types.copy(type, false) : type;
            }
            if (own != NO_DEFINITION && key == ownKey) {
                known.addUse(own, own);
                return ownType;
            }
            int ahead = known.definitionNumber(key);
            if (ahead != Known.NOT_THERE) {
                known.addUse(own, ahead);
                return types.copy(known.typeOfDefinition(ahead), false);
            }
            int basic = known.typeOfBasicName(key);
            if (basic == Types.NONE) {
                tellAtToken(Fault.NOT_KNOWN, token);
                return Types.NONE;
            }
            return types.copy(basic, false);
        }

        private int typeOfCapital(int token) {
            int number = known.constructorNumber(tokens.keyOf(token));
            if (number == Known.NOT_THERE) {
                tellAtToken(Fault.NOT_KNOWN, token);
                return Types.NONE;
            }
            return types.copy(known.typeOfConstructor(number), false);
        }

        private int typeOfCall(int function, int given) {
            int result = types.unknown();
            int wanted = types.function(steps.typeOf(given), result);
            if (!types.fits(steps.typeOf(function), wanted)) {
                fault.tell(Fault.NOT_FITTING, steps.firstOf(given));
            }
            return result;
        }

        private int typeOfFun(int body, int names) {
            int type = steps.typeOf(body);
            int last = scope.last();
            for (int n = 0; n < names; n++) {
                type = types.function(scope.typeOf(last - n), type);
            }
            scope.unbind(names);
            return type;
        }
    }

    /** The paper, and how a type is written on it. */
    private static final class Writer {
        private static final int MOST = 400;
        // A type of 400 bytes has fewer parts and bytes together.
        private static final int PENDING = 1024;
        private static final int VERY_LONG = 1000000;

        private final Types types;
        private final Known known;
        private final byte[] paper = new byte[MOST];
        // What is still to be written, the next one last: a node, or a byte as a negative number.
        private final int[] pending = new int[PENDING];
        private int pendingSize;
        private int size;
        private int marks;

        Writer(Types types, Known known) {
            this.types = types;
            this.known = known;
        }

        int size() {
            return size;
        }

        int byteOn(int k) {
            return k >= 0 && k < size ? paper[k] : 0;
        }

        void wipe() {
            size = 0;
        }

        /** Writes a type in the place of what was there; false, and no change, if it is too long. */
        boolean put(int root) {
            if (lengthOf(root) > MOST) {
                return false;
            }
            for (int n = 0; n < types.gathered(); n++) {
                types.setNote(types.gatheredAt(n), 0);
            }
            size = 0;
            marks = 0;
            pendingSize = 0;
            later(types.find(root));
            for (int n = 0; n < PENDING && pendingSize > 0; n++) {
                pendingSize--;
                int thing = pending[pendingSize];
                if (thing < 0) {
                    putByte(-thing);
                } else {
                    putNode(thing);
                }
            }
            return true;
        }

        private int lengthOf(int root) {
            types.begin();
            types.gather(root);
            for (int n = 0; n < types.gathered(); n++) {
                int node = types.gatheredAt(n);
                int length = ownLength(types.tagOf(node));
                for (int k = 0; k < Types.KIDS; k++) {
                    int kid = types.kidOf(node, k);
                    if (kid != Types.NONE) {
                        length += types.noteOf(kid) + (isWrapped(node, k) ? 2 : 0);
                    }
                }
                types.setNote(node, Math.min(length + blanks(node), VERY_LONG));
            }
            return types.noteOf(root);
        }

        private int ownLength(int tag) {
            switch (tag) {
                case Types.INT:
                    return 3;
                case Types.BOOL:
                    return 4;
                case Types.UNKNOWN:
                case Types.MARK:
                    return 2;
                case Types.PAIR:
                    return 3;
                case Types.FUNCTION:
                    return 4;
                default:
                    return bytesIn(known.keyOfType(tag - Types.NAMED));
            }
        }

        private static int bytesIn(long key) {
            int bytes = 0;
            for (int shift = 0; shift < 64; shift += 8) {
                bytes += (key >>> shift & 255) != 0 ? 1 : 0;
            }
            return bytes;
        }

        /** The blanks ahead of the parts of a name. */
        private int blanks(int node) {
            if (types.tagOf(node) < Types.NAMED) {
                return 0;
            }
            int blanks = 0;
            for (int k = 0; k < Types.KIDS; k++) {
                blanks += types.kidOf(node, k) != Types.NONE ? 1 : 0;
            }
            return blanks;
        }

        /** Whether a part of a type stands in ( and ). */
        private boolean isWrapped(int node, int which) {
            int tag = types.tagOf(node);
            int kid = types.kidOf(node, which);
            int kidTag = types.tagOf(kid);
            if (tag == Types.PAIR) {
                return kidTag == Types.PAIR || kidTag == Types.FUNCTION;
            }
            if (tag == Types.FUNCTION) {
                return which == 0 && kidTag == Types.FUNCTION;
            }
            return kidTag == Types.PAIR || kidTag == Types.FUNCTION
                    || kidTag >= Types.NAMED && types.kidOf(kid, 0) != Types.NONE;
        }

        private void putNode(int node) {
            int tag = types.tagOf(node);
            switch (tag) {
                case Types.INT:
                    putText("int");
                    break;
                case Types.BOOL:
                    putText("bool");
                    break;
                case Types.UNKNOWN:
                case Types.MARK:
                    putMark(node);
                    break;
                case Types.PAIR:
                    laterPart(node, 1);
                    laterText(" * ");
                    laterPart(node, 0);
                    break;
                case Types.FUNCTION:
                    laterPart(node, 1);
                    laterText(" -> ");
                    laterPart(node, 0);
                    break;
                default:
                    putNamed(node, tag - Types.NAMED);
                    break;
            }
        }

        private void putNamed(int node, int number) {
            long key = known.keyOfType(number);
            for (int shift = 56; shift >= 0; shift -= 8) {
                int b = (int) (key >>> shift & 255);
                if (b != 0) {
                    putByte(b);
                }
            }
            for (int k = Types.KIDS - 1; k >= 0; k--) {
                if (types.kidOf(node, k) != Types.NONE) {
                    laterPart(node, k);
                    later(-' ');
                }
            }
        }

        private void putMark(int node) {
            if (types.noteOf(node) == 0) {
                marks++;
                types.setNote(node, marks);
            }
            putByte('\'');
            putByte('a' + Math.floorMod(types.noteOf(node) - 1, 26));
        }

        private void putText(String text) {
            for (int k = 0; k < text.length(); k++) {
                putByte(text.charAt(k));
            }
        }

        private void putByte(int b) {
            if (size < MOST) {
                paper[size] = (byte) b;
                size++;
            }
        }

        private void laterPart(int node, int which) {
            boolean wrapped = isWrapped(node, which);
            if (wrapped) {
                later(-')');
            }
            later(types.kidOf(node, which));
            if (wrapped) {
                later(-'(');
            }
        }

        private void laterText(String text) {
            for (int k = text.length() - 1; k >= 0; k--) {
                later(-text.charAt(k));
            }
        }

        private void later(int thing) {
            if (pendingSize < PENDING) {
                pending[pendingSize] = thing;
                pendingSize++;
            }
        }
    }
}
