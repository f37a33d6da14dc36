import java.util.List;
import java.util.TreeMap;

/**
 * All promises on random texts and random runs of calls, held against the model. The seeds are
 * written here, so the test is the same each time.
 */
public final class RandomTest {
    private static final int TEXTS = 60000;
    private static final int RUNS = 300;
    // An object is good for 512 calls; a text takes up to 42, and a turn of a run up to 11.
    private static final int CALLS = 501;
    private static final int TEXTS_IN_ONE = 10;

    private static final TreeMap<String, Integer> seen = new TreeMap<>();
    private static ProgramSchool used = new ProgramSchool();
    private static int usedTexts;
    private static int calls;

    public static void main(String[] args) {
        int texts = args.length > 0 ? Integer.parseInt(args[0]) : TEXTS;
        int runs = args.length > 1 ? Integer.parseInt(args[1]) : RUNS;
        long seed = args.length > 2 ? Long.parseLong(args[2]) : 1;
        for (int i = 0; i < texts; i++) {
            text(new Generator(seed * 1000003L + i));
        }
        for (int i = 0; i < runs; i++) {
            run(new Generator(-seed * 1000003L - i));
        }
        System.out.println(seen);
        if (texts >= TEXTS && runs >= RUNS) {
            checkSeen();
        }
        Check.end("RandomTest");
    }

    private static void checkSeen() {
        for (String call : List.of("hand", "withdraw", "accuse", "clear")) {
            Check.due(call + " that throws was seen", true, seen.containsKey(call + " throws"));
            Check.due(call + " that does not throw was seen", true, seen.containsKey(call + " other"));
        }
        for (int i = 0; i <= ProgramSchool.COUNT; i++) {
            Check.due("fault " + i + " was seen", true, seen.containsKey("fault " + i));
        }
        for (int i = 0; i <= ProgramSchool.DEPTH; i++) {
            Check.due("end " + i + " was seen", true, seen.containsKey("end " + i));
        }
    }

    private static void saw(String what) {
        seen.merge(what, 1, Integer::sum);
    }

    private static void text(Generator generator) {
        String text = generator.chance(10) ? generator.bits() : generator.text(40);
        Model model = new Model();
        ProgramSchool school = new ProgramSchool();
        for (int i = 0; i < text.length(); i += 8) {
            model.write(Texts.packed(text, i));
            school.write(Texts.packed(text, i));
        }
        Check.due("fault of " + text, model.fault(), school.fault());
        Check.due("faultPlace of " + text, model.faultPlace(), school.faultPlace());
        saw("fault " + model.fault());
        Check.due("draftParts of " + text, Check.answer(model::draftParts), Check.answer(school::draftParts));
        textBehindOthers(text, model);
        if (model.fault() != ProgramSchool.NO_FAULT) {
            return;
        }
        for (int i = 0; i < 4; i++) {
            int fuel = i == 0 ? 5000 : generator.below(generator.chance(50) ? 30 : 300);
            trial(text, model, school, fuel, generator.below(7) - 2, generator.random.nextInt());
        }
    }

    /** In an object that has had other texts, of which nothing may be left. */
    private static void textBehindOthers(String text, Model model) {
        usedTexts++;
        if (usedTexts % TEXTS_IN_ONE == 0) {
            used = new ProgramSchool();
        }
        Texts.set(used, text);
        Check.due("fault behind others of " + text, model.fault(), used.fault());
        Check.due("faultPlace behind others of " + text, model.faultPlace(), used.faultPlace());
        if (model.fault() == ProgramSchool.NO_FAULT) {
            Check.due("trial behind others of " + text, model.trial(99, 5, 7), used.trial(99, 5, 7));
        }
    }

    private static void trial(String text, Model model, ProgramSchool school, int fuel, int first, int second) {
        String what = "(" + fuel + ", " + first + ", " + second + ") of " + text;
        int end = model.trial(fuel, first, second);
        saw("end " + end);
        Check.due("trial" + what, end, school.trial(fuel, first, second));
        state("trial" + what, model, school);
        // Something else in between, so that the second trial cannot live on the first one.
        school.trial(0, 0, 0);
        Check.due("trialByTree" + what, end, school.trialByTree(fuel, first, second));
        state("trialByTree" + what, model, school);
    }

    private static void state(String what, Model model, ProgramSchool school) {
        Check.due("outputs after " + what, model.outputs(), school.outputs());
        for (int i = 0; i < model.outputs(); i++) {
            Check.due("output after " + what, model.outputAt(i), school.outputAt(i));
        }
        Check.due("fuelLeft after " + what, model.fuelLeft(), school.fuelLeft());
        for (int i = 0; i < 32; i++) {
            Check.due("cell " + i + " after " + what, model.cellAt(i), school.cellAt(i));
        }
    }

    private static void run(Generator generator) {
        Model model = new Model();
        ProgramSchool school = new ProgramSchool();
        StringBuilder log = new StringBuilder();
        calls = 0;
        String[] texts = new String[3];
        for (int i = 0; i < texts.length; i++) {
            texts[i] = generator.text(10);
            texts[i] = texts[i].substring(0, Math.min(texts[i].length(), 80));
        }
        for (int i = 0; i < 2; i++) {
            int fuel = generator.chance(70) ? 100 : 20;
            int due = generator.below(6);
            same("addExercise " + fuel + " " + due, log, () -> model.addExercise(fuel, due), () -> school.addExercise(fuel, due));
        }
        // A turn may be without a call, so they have a bound of their own.
        for (int turns = 0; turns < CALLS && calls < CALLS; turns++) {
            if (generator.chance(12)) {
                write(generator.chance(70) ? simple(generator) : texts[generator.below(texts.length)], model, school, log);
            } else {
                call(generator, model, school, log);
            }
        }
    }

    private static void write(String text, Model model, ProgramSchool school, StringBuilder log) {
        model.wipe();
        school.wipe();
        calls++;
        for (int i = 0; i < text.length(); i += 8) {
            model.write(Texts.packed(text, i));
            school.write(Texts.packed(text, i));
            calls++;
        }
        log.append(" text ").append(text);
    }

    private static String simple(Generator generator) {
        String[] texts = {"a=in;b=in;if a<b{out b-a;}out a;", "x=in;y=in;if x<y{out y-x;}out x;", "out in+in;",
            "out 1;out 2;", "a=in;b=in;out a+b;", "b=in;c=in;out b+c;out 1;", "b=in;a=in;d=1;out a+b;", "",
            "out in/in;", "while in{out 1;}", "while 1{}", "def f(a){return a+1;}out f(in);out 0;",
            "def g(b){return b+2;}out g(in);out 7;", "c=in;", "a=1;b=1;c=1;d=1;out 1;", "x=2;out 1;x=3;x=4;y=5;", "out 1+"};
        return texts[generator.below(texts.length)];
    }

    private static void call(Generator g, Model m, ProgramSchool s, StringBuilder log) {
        int a = index(g, 32);
        int e = g.chance(80) ? g.below(2) : index(g, 4);
        int t = index(g, 8);
        int b = index(g, 32);
        int p = index(g, 6);
        int small = g.below(4);
        int n = g.chance(80) ? g.below(6) : g.random.nextInt();
        int f = g.chance(80) ? 1 + g.below(60) : g.below(5200) - 100;
        switch (g.below(36)) {
            case 0: long signs = g.chance(30) ? g.random.nextLong() : Texts.packed("out 1;") << 8 * g.below(4);
                same("write " + signs, log, () -> m.write(signs), () -> s.write(signs)); break;
            case 1: same("erase " + n, log, () -> m.erase(n), () -> s.erase(n)); break;
            case 2: same("length", log, m::length, s::length); break;
            case 3: same("signAt " + n, log, () -> m.signAt(n), () -> s.signAt(n)); break;
            case 4: same("fault", log, m::fault, s::fault); break;
            case 5: same("faultPlace", log, m::faultPlace, s::faultPlace); break;
            case 6: same("draftParts", log, m::draftParts, s::draftParts); break;
            case 7: same("trial " + f, log, () -> m.trial(f, n, t), () -> s.trial(f, n, t)); break;
            case 8: same("trialByTree " + f, log, () -> m.trial(f, n, t), () -> s.trialByTree(f, n, t)); break;
            case 9: same("outputs", log, m::outputs, s::outputs); break;
            case 10: same("outputAt " + t, log, () -> m.outputAt(t), () -> s.outputAt(t)); break;
            case 11: same("fuelLeft", log, m::fuelLeft, s::fuelLeft); break;
            case 12: same("cellAt " + a, log, () -> m.cellAt(a), () -> s.cellAt(a)); break;
            case 13: int due = m.today() + g.below(20) - 2;
                if (g.chance(80) && m.today() > 0) {
                    same("addExercise " + f + " " + due, log, () -> m.addExercise(f, due), () -> s.addExercise(f, due));
                }
                break;
            case 14: case 15: addTest(g, m, s, log, e, n, small); break;
            case 16: same("withdraw " + e + " " + t, log, () -> m.withdraw(e, t), () -> s.withdraw(e, t)); break;
            case 17: int d = g.chance(80) ? g.below(6) : g.below(110);
                same("pass " + d, log, () -> m.pass(d), () -> s.pass(d)); break;
            case 18: same("today", log, m::today, s::today); break;
            case 19: case 20: case 21: same("hand " + p + " " + e, log, () -> m.hand(p, e), () -> s.hand(p, e)); break;
            case 22: same("answers", log, m::answers, s::answers); break;
            case 23: same("passes " + a + " " + t, log, () -> m.passes(a, t), () -> s.passes(a, t) ? 1 : 0); break;
            case 24: same("endOf " + a + " " + t, log, () -> m.endOf(a, t), () -> s.endOf(a, t)); break;
            case 25: same("points " + a, log, () -> m.points(a), () -> s.points(a)); break;
            case 26: same("mark " + a, log, () -> m.mark(a), () -> s.mark(a)); break;
            case 27: same("markAnew " + a, log, () -> m.mark(a), () -> s.markAnew(a)); break;
            case 28: same("best " + p + " " + e, log, () -> m.best(p, e), () -> s.best(p, e)); break;
            case 29: same("passed " + e + " " + t, log, () -> m.passed(e, t), () -> s.passed(e, t)); break;
            case 30: same("parts " + a, log, () -> m.parts(a), () -> s.parts(a)); break;
            case 31: same("common " + a + " " + b, log, () -> m.common(a, b), () -> s.common(a, b)); break;
            case 32: same("likeness " + a + " " + b, log, () -> m.likeness(a, b), () -> s.likeness(a, b)); break;
            case 33: same("accuse " + a + " " + b, log, () -> m.accuse(a, b), () -> s.accuse(a, b)); break;
            case 34: same("clear " + a, log, () -> m.clear(a), () -> s.clear(a)); break;
            default: same("doubt " + a, log, () -> m.doubt(a), () -> s.doubt(a));
        }
        if (m.answers() > 0) {
            desk(g, m, s, log);
        }
    }

    /** A test, often one that some answers pass. */
    private static void addTest(Generator g, Model m, ProgramSchool s, StringBuilder log, int e, int first, int second) {
        Model.Doing run = new Model.Read(simple(g)).run(60, first, second);
        int weight = g.chance(90) ? 1 + g.below(10) : g.below(14) - 1;
        int count = g.chance(80) ? Math.min(2, run.outputs.size()) : g.below(5) - 1;
        int one = run.outputs.size() > 0 ? run.outputs.get(0) : g.below(3);
        int other = run.outputs.size() > 1 ? run.outputs.get(1) : g.below(3);
        same("addTest " + e + " " + weight + " " + first + " " + second + " " + count + " " + one + " " + other, log,
                () -> m.addTest(e, weight, first, second, count, one, other),
                () -> s.addTest(e, weight, first, second, count, one, other));
    }

    /** Accusations that often hit, which random ones seldom do. */
    private static void desk(Generator g, Model m, ProgramSchool s, StringBuilder log) {
        int a = g.below(m.answers());
        int doubt = m.doubt(a);
        if (doubt == ProgramSchool.NONE || !g.chance(20)) {
            return;
        }
        saw("doubt");
        same("doubt " + a, log, () -> m.doubt(a), () -> s.doubt(a));
        if (g.chance(70)) {
            same("accuse " + a + " " + doubt, log, () -> m.accuse(a, doubt), () -> s.accuse(a, doubt));
        } else {
            same("clear " + a, log, () -> m.clear(a), () -> s.clear(a));
        }
    }

    private static int index(Generator g, int bound) {
        if (g.chance(5)) {
            return g.random.nextInt();
        }
        return g.chance(70) ? g.below(Math.min(bound, 4)) : g.below(bound + 2) - 1;
    }

    private static void same(String call, StringBuilder log, Check.Call model, Check.Call school) {
        String want = Check.answer(model);
        String got = Check.answer(school);
        calls++;
        log.append(" | ").append(call);
        Check.due(want.equals(got) ? call : log.toString(), want, got);
        if (call.startsWith("accuse") || call.startsWith("clear") || call.startsWith("withdraw") || call.startsWith("hand")) {
            saw(call.substring(0, call.indexOf(' ')) + (want.contains("E") ? " throws" : want.equals("0") ? " 0" : " other"));
        }
    }
}
