import java.util.ArrayList;
import java.util.List;

/** Programs and questions that are put together by a row of numbers: the same ones for the same first number. */
final class Texts {
    private static final String[] NAMES = {"a", "b", "c", "f", "g", "x", "y", "fst", "snd"};
    private static final String[] MARKS = {"'a", "'b", "'c", "'d"};
    private static final String[] TOKENS = {"type", "def", "let", "in", "fun", "if", "then", "else", "case", "of", "end",
        "true", "false", "x", "a", "Nil", "A", "'a", "1", "23", "(", ")", ",", ";", ":", "=", "|", "+", "-", "*", "<", "->",
        "#", "abcdefghi", "12345"};

    private record Capital(String name, int parts) { }

    private record Named(String name, int marks) { }

    private long state;
    private final List<Capital> capitals = new ArrayList<>();
    private final List<Named> types = new ArrayList<>();
    private final List<String> definitions = new ArrayList<>();
    private final List<String> bound = new ArrayList<>();

    Texts(int number) {
        state = number * 0x9E3779B97F4A7C15L + 1;
        forget();
    }

    private void forget() {
        capitals.clear();
        types.clear();
        definitions.clear();
        bound.clear();
        capitals.add(new Capital("Nil", 0));
        capitals.add(new Capital("Cons", 2));
        types.add(new Named("int", 0));
        types.add(new Named("bool", 0));
        types.add(new Named("list", 1));
    }

    /** A number from 0, below the given one. */
    int below(int most) {
        state = state * 6364136223846793005L + 1442695040888963407L;
        long mixed = (state ^ state >>> 29) * 0xBF58476D1CE4E5B9L;
        return (int) ((mixed >>> 33) % most);
    }

    private boolean oneIn(int many) {
        return below(many) == 0;
    }

    /** Item by item: of some that have no error the longest one, at times one that has. */
    String program() {
        String text = "";
        int items = 1 + below(oneIn(8) ? 14 : 7);
        for (int n = 0; n < items; n++) {
            String best = "";
            boolean ofTypes = oneIn(5);
            for (int attempt = 0; attempt < 10; attempt++) {
                String item = ofTypes ? typeItem() : definition();
                if (new Model().compile(text + item) == 0 ? item.length() > best.length() : oneIn(150)) {
                    best = item;
                }
                forgetBehind(text);
            }
            if (text.length() + best.length() <= 1200) {
                text += best;
                learn(best);
            }
        }
        return cut(oneIn(12) ? changed(text) : text);
    }

    /** What an item told is known no more. */
    private void forgetBehind(String text) {
        forget();
        for (String item : text.split(";")) {
            learn(item);
        }
    }

    private void learn(String item) {
        String[] sides = item.split("=", 2);
        String[] head = sides[0].trim().split("[ :]+");
        if (head.length > 1 && head[0].equals("def")) {
            definitions.add(head[1]);
        } else if (head.length > 1) {
            types.add(new Named(head[1], head.length - 2));
            for (String constructor : sides[1].replace(";", "").split("\\|")) {
                String[] parts = constructor.replaceAll("\\([^()]*\\)", "p").replaceAll("\\([^()]*\\)", "p")
                        .replaceAll("\\([^()]*\\)", "p").trim().split(" ");
                capitals.add(new Capital(parts[0], parts.length - 1));
            }
        }
    }

    String question() {
        bound.clear();
        String text = expression(3);
        return cut(oneIn(10) ? changed(text) : text);
    }

    private static String cut(String text) {
        return text.substring(0, Math.min(1200, text.length()));
    }

    /** One token more, fewer, or another one. */
    private String changed(String text) {
        int at = below(text.length() + 1);
        String token = TOKENS[below(TOKENS.length)];
        int taken = Math.min(text.length() - at, below(3));
        return text.substring(0, at) + (oneIn(3) ? "" : oneIn(2) ? token : " " + token + " ") + text.substring(at + taken);
    }

    private String typeItem() {
        bound.clear();
        int marks = below(4);
        String name = oneIn(20) ? types.get(below(types.size())).name : "t" + types.size();
        StringBuilder text = new StringBuilder("type " + name);
        List<String> known = new ArrayList<>();
        for (int n = 0; n < marks; n++) {
            String mark = oneIn(25) ? MARKS[below(4)] : MARKS[n];
            known.add(mark);
            text.append(' ').append(mark);
        }
        if (oneIn(30)) {
            text.append(" 'd");
        }
        types.add(new Named(name, marks));
        int first = capitals.size();
        text.append('=');
        int many = 1 + below(oneIn(10) ? 9 : 3);
        for (int n = 0; n < many; n++) {
            String capital = oneIn(40) ? capitals.get(below(capitals.size())).name : "K" + (first + n);
            int parts = below(oneIn(20) ? 5 : 4);
            text.append(n == 0 ? "" : "|").append(capital);
            for (int k = 0; k < parts; k++) {
                text.append(' ').append(part(known, 2));
            }
        }
        return text.append(';').toString();
    }

    private String part(List<String> known, int deep) {
        switch (below(4)) {
            case 0:
                return oneIn(40) || known.isEmpty() ? plainName(known) : known.get(below(known.size()));
            case 1:
                return plainName(known);
            default:
                return "(" + form(known, deep - 1) + ")";
        }
    }

    private String plainName(List<String> known) {
        for (int n = 0; n < 8; n++) {
            Named type = types.get(below(types.size()));
            if (type.marks == 0 || oneIn(60)) {
                return type.name;
            }
        }
        return oneIn(60) ? "nope" : oneIn(60) && !known.isEmpty() ? "'d" : "int";
    }

    private String form(List<String> known, int deep) {
        if (deep <= 0) {
            return oneIn(2) && !known.isEmpty() ? known.get(below(known.size())) : plainName(known);
        }
        switch (below(5)) {
            case 0:
                return part(known, deep) + "*" + part(known, deep);
            case 1:
                return part(known, deep) + "->" + form(known, deep - 1);
            case 2:
                return part(known, deep) + "*" + part(known, deep) + "->" + form(known, deep - 1);
            default:
                Named type = types.get(below(types.size()));
                StringBuilder text = new StringBuilder(type.name);
                int parts = oneIn(40) ? below(4) : type.marks;
                for (int n = 0; n < parts; n++) {
                    text.append(' ').append(part(known, deep - 1));
                }
                return text.toString();
        }
    }

    private String definition() {
        bound.clear();
        String name = oneIn(30) ? NAMES[below(NAMES.length)] : "d" + definitions.size();
        StringBuilder text = new StringBuilder("def " + name);
        if (oneIn(5)) {
            text.append(':').append(form(List.of(MARKS), 2));
        }
        text.append('=').append(expression(2 + below(3)));
        return text.append(';').toString();
    }

    private String name() {
        if (!bound.isEmpty() && !oneIn(4)) {
            return bound.get(Math.max(below(bound.size()), below(bound.size())));
        }
        if (!definitions.isEmpty() && !oneIn(6)) {
            return definitions.get(below(definitions.size()));
        }
        return oneIn(3) ? oneIn(2) ? "fst" : "snd" : oneIn(60) ? "nope" : bound.isEmpty() ? "1" : bound.get(0);
    }

    private String fresh() {
        return NAMES[below(oneIn(20) ? NAMES.length : 7)];
    }

    private String inside(int names, List<String> fresh, int deep) {
        int before = bound.size();
        for (int n = 0; n < names; n++) {
            bound.add(fresh.get(n));
        }
        String text = expression(deep);
        while (bound.size() > before) {
            bound.remove(bound.size() - 1);
        }
        return text;
    }

    private List<String> freshNames(int many) {
        List<String> names = new ArrayList<>();
        for (int n = 0; n < many; n++) {
            names.add(fresh());
        }
        return names;
    }

    String expression(int deep) {
        if (deep <= 0) {
            return atom(0);
        }
        switch (below(14)) {
            case 0:
            case 1:
            case 2:
                List<String> names = freshNames(1 + below(3));
                return "fun " + String.join(" ", names) + "->" + inside(names.size(), names, deep - 1);
            case 3:
            case 4:
                List<String> one = freshNames(1);
                return "let " + one.get(0) + "=" + expression(deep - 1) + " in " + inside(1, one, deep - 1);
            case 5:
                return "if " + expression(deep - 1) + " then " + expression(deep - 1) + " else " + expression(deep - 1);
            case 6:
            case 7:
                return cases(deep);
            case 8:
                return sum(deep) + (oneIn(2) ? "=" : "<") + sum(deep);
            default:
                return sum(deep);
        }
    }

    private String cases(int deep) {
        StringBuilder text = new StringBuilder("case " + expression(deep - 1) + " of ");
        int first = below(capitals.size());
        int many = 1 + below(3);
        for (int n = 0; n < many; n++) {
            Capital capital = capitals.get(oneIn(20) ? below(capitals.size()) : (first + n) % capitals.size());
            List<String> names = freshNames(oneIn(40) ? below(4) : capital.parts);
            text.append(n == 0 ? "" : "|").append(oneIn(60) ? "Nope" : capital.name);
            for (String name : names) {
                text.append(' ').append(name);
            }
            text.append("->").append(inside(names.size(), names, deep - 1));
        }
        return text.append(" end").toString();
    }

    private String sum(int deep) {
        if (!oneIn(6)) {
            return call(deep);
        }
        String[] operators = {"+", "-", "*"};
        return call(deep) + operators[below(3)] + call(deep - 1) + (oneIn(3) ? operators[below(3)] + atom(deep - 1) : "");
    }

    private String call(int deep) {
        StringBuilder text = new StringBuilder(atom(deep));
        int given = oneIn(2) ? 0 : 1 + below(2);
        for (int n = 0; n < given; n++) {
            text.append(' ').append(atom(deep - 1));
        }
        return text.toString();
    }

    private String atom(int deep) {
        switch (below(deep > 0 ? 9 : 6)) {
            case 0:
                return oneIn(3) ? oneIn(2) ? "true" : "false" : String.valueOf(below(30));
            case 1:
                Capital capital = capitals.get(below(capitals.size()));
                return oneIn(60) ? "Nope" : capital.name;
            case 2:
            case 3:
            case 4:
            case 5:
                return name();
            case 6:
            case 7:
                return "(" + expression(deep - 1) + "," + expression(deep - 1) + ")";
            default:
                return "(" + expression(deep - 1) + ")";
        }
    }
}
