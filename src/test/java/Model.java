import java.util.ArrayList;
import java.util.HashMap;
import java.util.HashSet;
import java.util.IdentityHashMap;
import java.util.List;
import java.util.Map;
import java.util.Set;
import java.util.regex.Matcher;
import java.util.regex.Pattern;

/**
 * What the document says, in the plainest way: a text becomes a tree, a type is a tree, and the first error is thrown.
 * It is slow, and gives up (TooMuch) where types grow beyond all bounds.
 */
final class Model {
    private static final Pattern TOKEN =
            Pattern.compile("[a-z][a-z0-9]*|[A-Z][a-z0-9]*|'[a-z]|[0-9]+|->|[(),;:=|+*<-]");
    private static final Set<String> KEYWORDS = Set.of("type", "def", "let", "in", "fun", "if", "then", "else", "case",
            "of", "end", "true", "false");
    private static final int TOKENS = 300;
    private static final int DEPTH = 12;
    private static final int PARTS = 120;

    /** An error with its number and position. */
    private static final class Wrong extends RuntimeException {
        private static final long serialVersionUID = 1;
        final int number;
        final int place;

        Wrong(int number, int place) {
            super(null, null, false, false);
            this.number = number;
            this.place = place;
        }
    }

    /** The model gives up: a type has too many parts. */
    static final class TooMuch extends RuntimeException {
        private static final long serialVersionUID = 1;

        TooMuch() {
            super(null, null, false, false);
        }
    }

    private record Token(String kind, String text, int first, int last) { }

    /** A part of the tree of a text: kind is that of the document, kids are its parts in their order. */
    private static final class Node {
        final String kind;
        final Token token;
        final List<Node> kids = new ArrayList<>();
        final List<Token> names = new ArrayList<>();
        int first;
        int last;
        Type type;

        Node(String kind, Token token) {
            this.kind = kind;
            this.token = token;
        }
    }

    /** A name with parts; "*" and "->" are names, too; a mark is a name with a ' ahead; null is what is unknown. */
    private static final class Type {
        final String name;
        final List<Type> parts;
        Type is;

        Type(String name, Type... parts) {
            this.name = name;
            this.parts = List.of(parts);
        }

        Type found() {
            return is == null ? this : is.found();
        }
    }

    private static final Type INT = new Type("int");
    private static final Type BOOL = new Type("bool");

    private record Constructor(String name, Type type, int parts) { }

    private record Definition(String name, Type type) { }

    /** A name that is bound: general is null where a fun or a choice binds it. */
    private record Bound(String name, Type type, Set<Type> general, Bound around) { }

    int error;
    int place = -1;
    String paper = "";
    private final Map<String, Integer> marksOfTypes = new HashMap<>();
    private final List<Constructor> constructors = new ArrayList<>();
    private final List<Definition> definitions = new ArrayList<>();
    private final List<Map<String, Integer>> uses = new ArrayList<>();
    private final List<Node> expressions = new ArrayList<>();
    private int types;
    private List<Token> tokens;
    private int next;
    private String ownName;
    private Type ownType;
    private Map<String, Integer> ownUses;
    private List<Node> found;

    Model() {
        forget();
    }

    private void forget() {
        marksOfTypes.clear();
        marksOfTypes.put("int", 0);
        marksOfTypes.put("bool", 0);
        marksOfTypes.put("list", 1);
        constructors.clear();
        Type list = new Type("list", new Type("'a"));
        constructors.add(new Constructor("Nil", list, 0));
        constructors.add(new Constructor("Cons", function(new Type("'a"), function(list, list)), 2));
        definitions.clear();
        uses.clear();
        expressions.clear();
        types = 0;
    }

    // What an object answers.

    int compile(String text) {
        forget();
        error = 0;
        place = -1;
        try {
            read(text);
            List<Node> items = program();
            for (Node item : items) {
                if (item.kind.equals("type")) {
                    typeItem(item);
                } else {
                    definition(item);
                }
            }
        } catch (Wrong wrong) {
            forget();
            error = wrong.number;
            place = wrong.place;
        }
        return error;
    }

    int ask(String text) {
        error = 0;
        place = -1;
        try {
            read(text);
            Node question = expression(0);
            take("");
            ownName = null;
            ownType = null;
            ownUses = new HashMap<>();
            found = new ArrayList<>();
            String answer = written(typeOf(question, null));
            if (answer.length() > 400) {
                throw new Wrong(9, tokens.get(0).first);
            }
            paper = answer;
        } catch (Wrong wrong) {
            error = wrong.number;
            place = wrong.place;
        }
        return error;
    }

    int count(int what) {
        return what == 0 ? types : what == 1 ? constructors.size() - 2 : what == 2 ? definitions.size()
                : what == 3 ? 0 : paper.length();
    }

    String definition(int def) {
        return written(definitions.get(def).type);
    }

    String constructor(int n) {
        return written(constructors.get(n + 2).type);
    }

    /** Null if no expression is there. */
    String at(int where) {
        Node best = null;
        for (Node node : expressions) {
            boolean there = node.first <= where && where <= node.last;
            if (there && (best == null || node.last - node.first < best.last - best.first)) {
                best = node;
            }
        }
        return best == null ? null : written(best.type);
    }

    int measure(int def, int what) {
        Type type = definitions.get(def).type;
        return what == 0 ? parts(type) : what == 1 ? marks(type, new ArrayList<>()).size() : order(type);
    }

    int uses(int a, int b) {
        return uses.get(a).getOrDefault(definitions.get(b).name, 0);
    }

    boolean covers(int a, int b) {
        return becomes(definitions.get(a).type.found(), definitions.get(b).type.found(), new HashMap<>());
    }

    /** Empty if there is none. */
    String meet(int a, int b) {
        Type one = anew(definitions.get(a).type, null);
        Type other = anew(definitions.get(b).type, null);
        return fit(one, other) ? written(one) : "";
    }

    double meanParts() {
        double sum = 0;
        for (Definition definition : definitions) {
            sum += parts(definition.type);
        }
        return definitions.isEmpty() ? 0.0 : sum / definitions.size();
    }

    long digest() {
        long d = 409;
        for (int what = 0; what <= 4; what++) {
            d = d * 31 + count(what);
        }
        for (int def = 0; def < definitions.size(); def++) {
            for (int what = 0; what <= 2; what++) {
                d = d * 31 + measure(def, what);
            }
            for (int other = 0; other < definitions.size(); other++) {
                d = d * 31 + uses(def, other);
            }
        }
        for (int k = 0; k < paper.length(); k++) {
            d = d * 31 + paper.charAt(k);
        }
        return d;
    }

    // Tokens and the tree.

    private void read(String text) {
        tokens = new ArrayList<>();
        next = 0;
        Matcher matcher = TOKEN.matcher(text);
        int at = 0;
        while (true) {
            while (at < text.length() && (text.charAt(at) == ' ' || text.charAt(at) == '\n')) {
                at++;
            }
            if (at == text.length()) {
                tokens.add(new Token("", "", at, at));
                return;
            }
            matcher.region(at, text.length());
            if (tokens.size() == TOKENS || !matcher.lookingAt()) {
                tokens.add(new Token("bad", "", at, at));
                return;
            }
            String token = matcher.group();
            tokens.add(new Token(kindOf(token), token, at, at + token.length() - 1));
            at += token.length();
        }
    }

    private static String kindOf(String token) {
        char first = token.charAt(0);
        if (Character.isDigit(first)) {
            return token.length() > 4 ? "bad" : "number";
        }
        if (Character.isLetter(first)) {
            return token.length() > 8 ? "bad" : KEYWORDS.contains(token) ? token : Character.isUpperCase(first) ? "capital"
                    : "name";
        }
        return first == '\'' ? "mark" : token;
    }

    private boolean is(String... kinds) {
        for (String kind : kinds) {
            if (tokens.get(next).kind.equals(kind)) {
                return true;
            }
        }
        return false;
    }

    private Token take(String kind) {
        if (!is(kind)) {
            throw new Wrong(1, tokens.get(next).first);
        }
        next++;
        return tokens.get(next - 1);
    }

    private Node start(String kind) {
        Node node = new Node(kind, tokens.get(next));
        node.first = tokens.get(next).first;
        return node;
    }

    private Node end(Node node) {
        node.last = tokens.get(next - 1).last;
        return node;
    }

    private List<Node> program() {
        List<Node> items = new ArrayList<>();
        do {
            items.add(is("type") ? typeForm() : definitionForm());
        } while (!is(""));
        return items;
    }

    private Node typeForm() {
        Node item = start("type");
        take("type");
        item.names.add(take("name"));
        while (is("mark")) {
            item.names.add(take("mark"));
        }
        take("=");
        do {
            if (!item.kids.isEmpty()) {
                take("|");
            }
            Node constructor = start("constructor");
            take("capital");
            while (is("mark", "name", "(")) {
                constructor.kids.add(part(0));
            }
            item.kids.add(constructor);
        } while (is("|"));
        take(";");
        return item;
    }

    private Node definitionForm() {
        Node item = start("def");
        take("def");
        item.names.add(take("name"));
        Node form = null;
        if (is(":")) {
            take(":");
            form = form(0);
        }
        take("=");
        item.kids.add(expression(0));
        if (form != null) {
            item.kids.add(form);
        }
        take(";");
        return item;
    }

    private void depth(int depth) {
        if (depth > DEPTH) {
            throw new Wrong(1, tokens.get(next).first);
        }
    }

    private Node form(int depth) {
        depth(depth);
        Node left = start("pair");
        Node first = use(depth);
        if (is("*")) {
            take("*");
            left.kids.add(first);
            left.kids.add(use(depth));
            first = left;
        }
        if (!is("->")) {
            return first;
        }
        Node function = new Node("function", first.token);
        function.first = first.first;
        take("->");
        function.kids.add(first);
        function.kids.add(form(depth));
        return function;
    }

    private Node use(int depth) {
        if (!is("name")) {
            return part(depth);
        }
        Node name = start("name");
        take("name");
        while (is("mark", "name", "(")) {
            name.kids.add(part(depth));
        }
        return name;
    }

    private Node part(int depth) {
        Node part = start(is("mark") ? "mark" : "name");
        if (is("mark", "name")) {
            take(tokens.get(next).kind);
            return part;
        }
        take("(");
        Node inner = form(depth + 1);
        inner.first = part.first;
        take(")");
        return inner;
    }

    private Node expression(int depth) {
        depth(depth);
        Node node = start(tokens.get(next).kind);
        switch (node.kind) {
            case "let":
                take("let");
                node.names.add(take("name"));
                take("=");
                node.kids.add(expression(depth + 1));
                take("in");
                node.kids.add(expression(depth + 1));
                return end(node);
            case "fun":
                take("fun");
                do {
                    node.names.add(take("name"));
                } while (is("name"));
                take("->");
                node.kids.add(expression(depth + 1));
                return end(node);
            case "if":
                take("if");
                node.kids.add(expression(depth + 1));
                take("then");
                node.kids.add(expression(depth + 1));
                take("else");
                node.kids.add(expression(depth + 1));
                return end(node);
            case "case":
                take("case");
                node.kids.add(expression(depth + 1));
                take("of");
                node.kids.add(choice(depth));
                while (is("|")) {
                    take("|");
                    node.kids.add(choice(depth));
                }
                take("end");
                return end(node);
            default:
                return relation(depth);
        }
    }

    private Node choice(int depth) {
        Node choice = start("choice");
        take("capital");
        while (is("name")) {
            choice.names.add(take("name"));
        }
        take("->");
        choice.kids.add(expression(depth + 1));
        return choice;
    }

    private Node both(String kind, Node left, Node right) {
        Node node = new Node(kind, left.token);
        node.first = left.first;
        node.kids.add(left);
        node.kids.add(right);
        return end(node);
    }

    private Node relation(int depth) {
        Node left = sum(depth);
        if (is("=", "<")) {
            String kind = take(tokens.get(next).kind).kind;
            return both(kind, left, sum(depth));
        }
        return left;
    }

    private Node sum(int depth) {
        Node left = product(depth);
        while (is("+", "-")) {
            take(tokens.get(next).kind);
            left = both("+", left, product(depth));
        }
        return left;
    }

    private Node product(int depth) {
        Node left = call(depth);
        while (is("*")) {
            take("*");
            left = both("+", left, call(depth));
        }
        return left;
    }

    private Node call(int depth) {
        Node left = atom(depth);
        while (is("number", "name", "capital", "true", "false", "(")) {
            left = both("call", left, atom(depth));
        }
        return left;
    }

    private Node atom(int depth) {
        Node node = start(tokens.get(next).kind);
        if (!is("(")) {
            if (!is("number", "name", "capital", "true", "false")) {
                throw new Wrong(1, tokens.get(next).first);
            }
            take(node.kind);
            return end(node);
        }
        take("(");
        node.kids.add(expression(depth + 1));
        if (is(",")) {
            take(",");
            node.kids.add(expression(depth + 1));
        }
        take(")");
        return end(node);
    }

    // Items.

    private void typeItem(Node item) {
        check(types == 6, 4, item.token);
        Token name = item.names.get(0);
        check(marksOfTypes.containsKey(name.text), 3, name);
        List<String> marks = new ArrayList<>();
        for (Token mark : item.names.subList(1, item.names.size())) {
            check(marks.contains(mark.text), 3, mark);
            check(marks.size() == 3, 4, mark);
            marks.add(mark.text);
        }
        types++;
        marksOfTypes.put(name.text, marks.size());
        Type[] parts = new Type[marks.size()];
        for (int n = 0; n < parts.length; n++) {
            parts[n] = new Type(marks.get(n));
        }
        Type whole = new Type(name.text, parts);
        for (Node constructor : item.kids) {
            check(constructorOf(constructor.token.text) != null, 3, constructor.token);
            check(constructors.size() == 26, 4, constructor.token);
            List<Type> before = new ArrayList<>();
            for (Node part : constructor.kids) {
                if (before.size() == 3) {
                    throw new Wrong(4, part.first);
                }
                before.add(typeOfForm(part, marks));
            }
            Type type = whole;
            for (int n = before.size() - 1; n >= 0; n--) {
                type = function(before.get(n), type);
            }
            constructors.add(new Constructor(constructor.token.text, type, before.size()));
        }
    }

    private static void check(boolean wrong, int number, Token token) {
        if (wrong) {
            throw new Wrong(number, token.first);
        }
    }

    /** All marks are known if marks is null. */
    private Type typeOfForm(Node form, List<String> marks) {
        switch (form.kind) {
            case "mark":
                check(marks != null && !marks.contains(form.token.text), 2, form.token);
                return new Type(form.token.text);
            case "pair":
                return pair(typeOfForm(form.kids.get(0), marks), typeOfForm(form.kids.get(1), marks));
            case "function":
                return function(typeOfForm(form.kids.get(0), marks), typeOfForm(form.kids.get(1), marks));
            default:
                check(!marksOfTypes.containsKey(form.token.text), 2, form.token);
                Type[] parts = new Type[form.kids.size()];
                for (int n = 0; n < parts.length; n++) {
                    parts[n] = typeOfForm(form.kids.get(n), marks);
                }
                check(parts.length != marksOfTypes.get(form.token.text), 6, form.token);
                return new Type(form.token.text, parts);
        }
    }

    private void definition(Node item) {
        check(definitions.size() == 24, 4, item.token);
        Token name = item.names.get(0);
        check(definitionOf(name.text) != null, 3, name);
        Node form = item.kids.size() > 1 ? item.kids.get(1) : null;
        Type formType = form == null ? null : typeOfForm(form, null);
        ownName = name.text;
        ownType = new Type(null);
        ownUses = new HashMap<>();
        found = expressions;
        Node expression = item.kids.get(0);
        Type type = typeOf(expression, null);
        if (!fit(type, ownType)) {
            throw new Wrong(5, expression.first);
        }
        if (form != null && !fit(type, formType)) {
            throw new Wrong(8, form.first);
        }
        check(parts(type) > PARTS, 9, name);
        definitions.add(new Definition(name.text, type));
        uses.add(ownUses);
    }

    private Definition definitionOf(String name) {
        return definitions.stream().filter(d -> d.name.equals(name)).findFirst().orElse(null);
    }

    private Constructor constructorOf(String name) {
        return constructors.stream().filter(c -> c.name.equals(name)).findFirst().orElse(null);
    }

    // Expressions.

    private Type typeOf(Node node, Bound scope) {
        node.type = typeFound(node, scope);
        found.add(node);
        return node.type;
    }

    private Type typeFound(Node node, Bound scope) {
        switch (node.kind) {
            case "number":
                return INT;
            case "true":
            case "false":
                return BOOL;
            case "name":
                return typeOfName(node.token, scope);
            case "capital":
                Constructor constructor = constructorOf(node.token.text);
                check(constructor == null, 2, node.token);
                return anew(constructor.type, null);
            case "(":
                Type first = typeOf(node.kids.get(0), scope);
                return node.kids.size() == 1 ? first : pair(first, typeOf(node.kids.get(1), scope));
            case "call":
                Type function = typeOf(node.kids.get(0), scope);
                Type given = typeOf(node.kids.get(1), scope);
                Type result = new Type(null);
                fit(function, function(given, result), node.kids.get(1));
                return result;
            case "+":
            case "<":
                fit(typeOf(node.kids.get(0), scope), INT, node.kids.get(0));
                fit(typeOf(node.kids.get(1), scope), INT, node.kids.get(1));
                return node.kind.equals("+") ? INT : BOOL;
            case "=":
                Type left = typeOf(node.kids.get(0), scope);
                fit(typeOf(node.kids.get(1), scope), left, node.kids.get(1));
                return BOOL;
            case "if":
                fit(typeOf(node.kids.get(0), scope), BOOL, node.kids.get(0));
                Type one = typeOf(node.kids.get(1), scope);
                fit(typeOf(node.kids.get(2), scope), one, node.kids.get(2));
                return one;
            case "fun":
                return typeOfFun(node, scope);
            case "let":
                return typeOfLet(node, scope);
            default:
                return typeOfCase(node, scope);
        }
    }

    private void fit(Type type, Type wanted, Node at) {
        if (!fit(type, wanted)) {
            throw new Wrong(5, at.first);
        }
    }

    private Type typeOfName(Token token, Bound scope) {
        for (Bound bound = scope; bound != null; bound = bound.around) {
            if (bound.name.equals(token.text)) {
                return bound.general == null ? bound.type : anew(bound.type, bound.general);
            }
        }
        if (token.text.equals(ownName)) {
            ownUses.merge(token.text, 1, Integer::sum);
            return ownType;
        }
        Definition definition = definitionOf(token.text);
        if (definition != null) {
            ownUses.merge(token.text, 1, Integer::sum);
            return anew(definition.type, null);
        }
        check(!token.text.equals("fst") && !token.text.equals("snd"), 2, token);
        Type left = new Type(null);
        Type right = new Type(null);
        return function(pair(left, right), token.text.equals("fst") ? left : right);
    }

    private Type typeOfFun(Node node, Bound scope) {
        Bound inner = scope;
        List<Type> names = new ArrayList<>();
        for (Token name : node.names) {
            names.add(new Type(null));
            inner = new Bound(name.text, names.get(names.size() - 1), null, inner);
        }
        Type type = typeOf(node.kids.get(0), inner);
        for (int n = names.size() - 1; n >= 0; n--) {
            type = function(names.get(n), type);
        }
        return type;
    }

    private Type typeOfLet(Node node, Bound scope) {
        Type named = typeOf(node.kids.get(0), scope);
        check(parts(named) > PARTS, 9, node.names.get(0));
        List<Type> fixed = new ArrayList<>();
        for (Bound bound = scope; bound != null; bound = bound.around) {
            if (bound.general == null) {
                marks(bound.type, fixed);
            }
        }
        if (ownType != null) {
            marks(ownType, fixed);
        }
        Set<Type> general = new HashSet<>(marks(named, new ArrayList<>()));
        general.removeAll(fixed);
        return typeOf(node.kids.get(1), new Bound(node.names.get(0).text, named, general, scope));
    }

    private Type typeOfCase(Node node, Bound scope) {
        Type looked = typeOf(node.kids.get(0), scope);
        Set<String> ahead = new HashSet<>();
        Type all = null;
        for (Node choice : node.kids.subList(1, node.kids.size())) {
            Constructor constructor = constructorOf(choice.token.text);
            check(constructor == null, 2, choice.token);
            check(!ahead.add(choice.token.text), 7, choice.token);
            check(choice.names.size() != constructor.parts, 6, choice.token);
            Type result = anew(constructor.type, null);
            Bound inner = scope;
            for (Token name : choice.names) {
                inner = new Bound(name.text, result.parts.get(0), null, inner);
                result = result.parts.get(1).found();
            }
            check(!fit(result, looked), 5, choice.token);
            Type type = typeOf(choice.kids.get(0), inner);
            if (all != null) {
                fit(type, all, choice.kids.get(0));
            } else {
                all = type;
            }
        }
        return all;
    }

    // Types.

    private static Type pair(Type left, Type right) {
        return new Type("*", left, right);
    }

    private static Type function(Type from, Type to) {
        return new Type("->", from, to);
    }

    private static boolean isMark(Type type) {
        return type.name == null || type.name.startsWith("'");
    }

    private static boolean stands(Type what, Type in) {
        Type type = in.found();
        if (type == what) {
            return true;
        }
        for (Type part : type.parts) {
            if (stands(what, part)) {
                return true;
            }
        }
        return false;
    }

    private boolean fit(Type a, Type b) {
        bounded(a);
        bounded(b);
        Type one = a.found();
        Type other = b.found();
        if (one == other) {
            return true;
        }
        if (one.name == null || other.name == null) {
            Type unknown = one.name == null ? one : other;
            Type known = one.name == null ? other : one;
            unknown.is = stands(unknown, known) ? null : known;
            return unknown.is != null;
        }
        if (!one.name.equals(other.name) || one.parts.size() != other.parts.size()) {
            return false;
        }
        for (int n = 0; n < one.parts.size(); n++) {
            if (!fit(one.parts.get(n), other.parts.get(n))) {
                return false;
            }
        }
        return true;
    }

    private static void bounded(Type type) {
        if (parts(type) > 20000) {
            throw new TooMuch();
        }
    }

    /** The type with what is general in it unknown anew: all marks, and what is unknown, if general is null. */
    private static Type anew(Type type, Set<Type> general) {
        return anew(type.found(), general, new IdentityHashMap<>(), new HashMap<>());
    }

    private static Type anew(Type type, Set<Type> general, Map<Type, Type> unknown, Map<String, Type> marks) {
        if (type.name == null) {
            return general == null || general.contains(type) ? unknown.computeIfAbsent(type, t -> new Type(null)) : type;
        }
        if (isMark(type)) {
            return general == null ? marks.computeIfAbsent(type.name, t -> new Type(null)) : type;
        }
        Type[] parts = new Type[type.parts.size()];
        for (int n = 0; n < parts.length; n++) {
            parts[n] = anew(type.parts.get(n).found(), general, unknown, marks);
        }
        return new Type(type.name, parts);
    }

    private static int parts(Type type) {
        int parts = 1;
        for (Type part : type.found().parts) {
            parts += parts(part);
            if (parts > 40000) {
                return parts;
            }
        }
        return parts;
    }

    /** Appends the different marks of a type, and what is unknown in it, in their order. */
    private static List<Type> marks(Type type, List<Type> into) {
        Type known = type.found();
        if (isMark(known)) {
            if (into.stream().noneMatch(t -> isSame(t, known))) {
                into.add(known);
            }
            return into;
        }
        for (Type part : known.parts) {
            marks(part, into);
        }
        return into;
    }

    private static boolean isSame(Type one, Type other) {
        return one == other || one.name != null && one.name.equals(other.name);
    }

    private static int order(Type type) {
        Type known = type.found();
        int order = 0;
        for (int n = 0; n < known.parts.size(); n++) {
            int more = known.name.equals("->") && n == 0 ? 1 : 0;
            order = Math.max(order, order(known.parts.get(n)) + more);
        }
        return order;
    }

    private static boolean becomes(Type wide, Type narrow, Map<Object, Type> places) {
        if (isMark(wide)) {
            Object key = wide.name == null ? wide : wide.name;
            Type there = places.putIfAbsent(key, narrow);
            return there == null || isEqual(there, narrow);
        }
        if (isMark(narrow) || !wide.name.equals(narrow.name)) {
            return false;
        }
        for (int n = 0; n < wide.parts.size(); n++) {
            if (!becomes(wide.parts.get(n).found(), narrow.parts.get(n).found(), places)) {
                return false;
            }
        }
        return true;
    }

    private static boolean isEqual(Type one, Type other) {
        if (isMark(one) || isMark(other) || !one.name.equals(other.name)) {
            return isSame(one, other);
        }
        for (int n = 0; n < one.parts.size(); n++) {
            if (!isEqual(one.parts.get(n).found(), other.parts.get(n).found())) {
                return false;
            }
        }
        return true;
    }

    private static String written(Type type) {
        if (parts(type) > 20000) {
            throw new TooMuch();
        }
        return written(type, marks(type, new ArrayList<>()));
    }

    private static String written(Type type, List<Type> marks) {
        Type known = type.found();
        if (isMark(known)) {
            int number = 0;
            while (!isSame(marks.get(number), known)) {
                number++;
            }
            return "'" + (char) ('a' + number % 26);
        }
        if (known.name.equals("*")) {
            return closed(known.parts.get(0), marks, "*", "->") + " * " + closed(known.parts.get(1), marks, "*", "->");
        }
        if (known.name.equals("->")) {
            return closed(known.parts.get(0), marks, "->") + " -> " + written(known.parts.get(1), marks);
        }
        StringBuilder text = new StringBuilder(known.name);
        for (Type part : known.parts) {
            boolean name = !part.found().parts.isEmpty();
            text.append(' ').append(name ? "(" + written(part, marks) + ")" : written(part, marks));
        }
        return text.toString();
    }

    private static String closed(Type part, List<Type> marks, String... names) {
        String text = written(part, marks);
        for (String name : names) {
            if (name.equals(part.found().name)) {
                return "(" + text + ")";
            }
        }
        return text;
    }
}
