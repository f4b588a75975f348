/** Compares the class with a plain model of the document, on programs and questions that are put together by number. */
public final class ModelTest {
    /** Fewer than 512, so that what is done with one object stays below it. */
    private static final int MOST_CALLS = 400;

    private static Check check;
    private static String text;
    private static Model model;
    private static TypeLoom loom;
    private static int calls;

    /** How many programs, and the number of the first. */
    public static void main(String[] args) {
        check = new Check("ModelTest");
        int programs = args.length > 0 ? Integer.parseInt(args[0]) : 1200;
        int first = args.length > 1 ? Integer.parseInt(args[1]) : 1;
        int given = 0;
        for (int n = first; n < first + programs; n++) {
            try {
                compare(new Texts(n));
            } catch (Model.TooMuch e) {
                given++;
            }
        }
        System.out.println("ModelTest: too much for the model: " + given);
        check.end();
    }

    private static void compare(Texts texts) {
        text = texts.program();
        model = new Model();
        int error = model.compile(text);
        anew();
        check.same("compile of " + text, Check.compile(new TypeLoom(), text), error);
        check.same("errorAt of " + text, loom.errorAt(), model.place);
        check.same("digest of " + text, loom.digest(), model.digest());
        check.isTrue("meanParts of " + text, loom.meanParts() == model.meanParts());
        if (error == 0) {
            writings();
            expressions(texts);
            pairs();
        }
        questions(texts);
    }

    /** A new object with the same program, and an empty paper in both. */
    private static void anew() {
        loom = new TypeLoom();
        Check.compile(loom, text);
        calls = text.length() / 20 + 5;
        model.paper = "";
    }

    /** Keeps the number of calls of an object low. */
    private static void willCall(int more) {
        if (calls + more > MOST_CALLS) {
            anew();
        }
        calls += more;
    }

    /** What a call that writes answers, or -1 if it is refused as too long, or -2 if there is no such thing. */
    private interface Writing {
        int call();
    }

    private static void written(String what, String due, Writing writing) {
        int answer;
        try {
            answer = writing.call();
        } catch (IllegalStateException e) {
            answer = -1;
        } catch (IndexOutOfBoundsException e) {
            answer = -2;
        }
        int length = due == null ? -2 : due.length() > 400 ? -1 : due.length();
        check.same(what + " of " + text, answer, length);
        if (length >= 0) {
            model.paper = due;
        }
        check.same("digest behind " + what + " of " + text, loom.digest(), model.digest());
    }

    private static void writings() {
        for (int def = 0; def < model.count(2); def++) {
            int which = def;
            willCall(2);
            written("write " + def, model.definition(def), () -> loom.write(which));
        }
        for (int constructor = 0; constructor < model.count(1); constructor++) {
            int which = constructor;
            willCall(2);
            written("writeConstructor " + constructor, model.constructor(constructor), () -> loom.writeConstructor(which));
        }
    }

    private static void expressions(Texts texts) {
        int step = text.length() < 150 ? 1 : 1 + texts.below(5);
        for (int place = 0; place <= text.length(); place += step) {
            int where = place;
            willCall(2);
            written("writeAt " + place, model.at(place), () -> loom.writeAt(where));
        }
    }

    private static void pairs() {
        for (int a = 0; a < model.count(2); a++) {
            for (int b = 0; b < model.count(2); b++) {
                int one = a;
                int other = b;
                willCall(4);
                check.same("covers " + a + ", " + b + " of " + text, loom.covers(a, b) ? 1 : 0, model.covers(a, b) ? 1 : 0);
                check.same("uses " + a + ", " + b + " of " + text, loom.uses(a, b), model.uses(a, b));
                written("meet " + a + ", " + b, model.meet(a, b), () -> loom.meet(one, other));
            }
        }
    }

    private static void questions(Texts texts) {
        for (int n = 0; n < 4; n++) {
            String question = texts.question();
            willCall(question.length() / 20 + 6);
            int error = model.ask(question);
            String what = "ask of " + question + " in " + text;
            check.same(what, Check.ask(loom, question), error);
            check.same("errorAt behind " + what, loom.errorAt(), model.place);
            check.same("digest behind " + what, loom.digest(), model.digest());
        }
    }
}
