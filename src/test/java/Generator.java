import java.util.Random;

/** Makes texts, most of them programs, some with faults; the same seed makes the same ones. */
final class Generator {
    private static final String[] NAMES = {"a", "b", "c", "x", "y", "i", "n", "ab", "z"};
    private static final String[] DEFS = {"f", "g", "a", "ff"};
    private static final String[] BINARY = {"+", "+", "-", "-", "*", "*", "/", "%", "<", "<=", ">", ">=", "==", "!=", "&&", "||"};
    private static final String[] NUMBERS = {"0", "1", "1", "2", "3", "5", "7", "31", "32", "100", "65536", "2147483647", "007"};
    private static final String[] BITS = {"if", "else", "while", "out", "in", "def", "return", "a", "b", "f", "1", "2147483648",
        "+", "-", "*", "<", "<=", "=", "==", "!=", "&&", "||", "&", "!", "#", "(", ")", "{", "}", ",", ";", "$", " ", "\n", "X"};

    private static final String[] BLOCKS = {"if 1{", "while i<2{", "if in{}else{", "if 0{}else{"};
    private static final String[] STATEMENTS = {"out E;", "out E;", "a=E;", "#1=E;", "#(E)=1;", "#f(E)=1;", "f(E);", "if E{}", "f(1);out E;"};
    private static final String[] STATEMENTS_OF_DEF = {"return E;", "return E;", "while E{return E;}", "a=E;return a;", "if E{}return b;"};
    private static final String[] OPENINGS = {"(", "(", "-", "!", "#", "f("};
    private static final String[] BESIDE = {"1+", "(1)*", "-1+", "f(2)-", "!#1*"};
    private static final String[] BEHIND = {"+1", "-(1)", "*f(1)", "/-1"};
    private static final String[] INNERMOST = {"1", "a", "in", "b+1", "2147483647", "2147483648"};

    final Random random;
    private final StringBuilder text = new StringBuilder();
    private final int[] parameters = new int[DEFS.length];
    private boolean inDef;
    // How many of the names a text uses, and how often it nests and calls what it should not.
    private int names;
    private int nesting;
    private int wrongCalls;

    Generator(long seed) {
        random = new Random(seed);
    }

    int below(int bound) {
        return random.nextInt(bound);
    }

    boolean chance(int percent) {
        return below(100) < percent;
    }

    private static <T> T one(T[] of, Random random) {
        return of[random.nextInt(of.length)];
    }

    /** A text of at most 300 signs; now and then with something spoilt. */
    String text(int spoiltPercent) {
        String made = one();
        for (int i = 0; i < 20 && made.length() > 300; i++) {
            made = one();
        }
        if (chance(spoiltPercent)) {
            made = spoilt(made);
        }
        return made.length() > 300 ? made.substring(0, 300) : made;
    }

    private String one() {
        if (chance(90)) {
            return program();
        }
        switch (below(3)) {
            case 0: return nested();
            case 1: return named();
            default: return doubled();
        }
    }

    /** Levels in one another, about as many as there may be, with others beside them. */
    private String nested() {
        int levels = 5 + below(6);
        int blocks = below(levels);
        boolean isDef = blocks > 0 && chance(30);
        String text = one(isDef ? STATEMENTS_OF_DEF : STATEMENTS, random).replace("E", deep(levels - blocks));
        for (int i = 1; i < blocks; i++) {
            text = one(BLOCKS, random) + text + (chance(30) ? "}i=i+1;" : "}");
        }
        return (isDef ? "def g(a,b){" + text + "}out g(1,2);" : blocks > 0 ? "if 1{" + text + "}" : text) + "def f(a){return a;}";
    }

    private String deep(int levels) {
        String text = one(INNERMOST, random);
        for (int i = 0; i < levels; i++) {
            String opening = one(OPENINGS, random);
            text = (chance(20) ? one(BESIDE, random) : "") + opening + text + (opening.endsWith("(") ? ")" : "")
                    + (chance(20) ? one(BEHIND, random) : "");
        }
        return text;
    }

    /** Variables of a def and of the program outside of it, about as many as there may be. */
    private String named() {
        StringBuilder text = new StringBuilder();
        int most = 6 + below(NAMES.length - 5);
        if (chance(50)) {
            assignments(text, most);
        }
        text.append("def f(");
        int count = below(most + 1);
        for (int i = 0; i < count; i++) {
            text.append(i == 0 ? "" : ",").append(NAMES[i]);
        }
        text.append("){");
        assignments(text, most);
        text.append("return ").append(NAMES[below(most)]).append(";}");
        assignments(text, most);
        return text.toString();
    }

    private void assignments(StringBuilder text, int most) {
        int count = below(9);
        for (int i = 0; i < count; i++) {
            text.append(NAMES[below(most)]).append('=').append(chance(20) ? "in" : NAMES[below(most)]).append(';');
        }
    }

    /** Defs and parameters whose names may be those of others. */
    private String doubled() {
        StringBuilder text = new StringBuilder("a=2;");
        int defs = 1 + below(4);
        for (int i = 0; i < defs; i++) {
            text.append("def ").append(one(NAMES, random)).append('(');
            int count = below(4);
            for (int j = 0; j < count; j++) {
                text.append(j == 0 ? "" : ",").append(one(NAMES, random));
            }
            text.append("){").append(chance(50) ? "b=a+1;return b;" : "").append('}');
        }
        return text.append("out ").append(one(NAMES, random)).append(chance(50) ? "();" : "(a);").toString();
    }

    /** Bits of the language in any order. */
    String bits() {
        StringBuilder made = new StringBuilder();
        int count = below(60);
        for (int i = 0; i < count; i++) {
            made.append(one(BITS, random));
            if (chance(30)) {
                made.append(' ');
            }
        }
        return made.length() > 300 ? made.substring(0, 300) : made.toString();
    }

    private String spoilt(String made) {
        StringBuilder text = new StringBuilder(made);
        int times = 1 + below(3);
        for (int i = 0; i < times && text.length() > 0; i++) {
            int place = below(text.length());
            switch (below(5)) {
                case 0: text.deleteCharAt(place); break;
                case 1: text.insert(place, one(BITS, random)); break;
                case 2: text.setCharAt(place, (char) (32 + below(95))); break;
                case 3: text.setLength(place); break;
                default: text.append(one(BITS, random));
            }
        }
        return text.toString();
    }

    private String program() {
        text.setLength(0);
        inDef = false;
        names = chance(5) ? NAMES.length : 1 + below(8);
        nesting = chance(10) ? 90 : 10;
        wrongCalls = chance(5) ? 30 : 0;
        int defs = below(4);
        for (int i = 0; i < DEFS.length; i++) {
            parameters[i] = i < defs ? below(4) == 0 ? below(9) : below(3) : -1;
        }
        boolean before = chance(50);
        int statements = 1 + below(6);
        for (int i = 0; i < statements; i++) {
            if (before == (i == 0)) {
                defs(defs);
                defs = 0;
            }
            statement(2);
        }
        defs(defs);
        return text.toString();
    }

    private void defs(int count) {
        for (int i = 0; i < count; i++) {
            text.append("def ").append(DEFS[i]).append('(');
            for (int j = 0; j < parameters[i]; j++) {
                text.append(j == 0 ? "" : ",").append(NAMES[j]);
            }
            text.append(')');
            inDef = true;
            block(2);
            inDef = false;
        }
    }

    private void block(int depth) {
        text.append('{');
        int statements = below(4);
        for (int i = 0; i < statements; i++) {
            statement(depth - 1);
        }
        text.append('}');
    }

    private void space() {
        text.append(chance(90) ? "" : chance(80) ? " " : "\n");
    }

    private void statement(int depth) {
        int kind = below(depth > 0 ? 12 : 8);
        space();
        if (kind < 3) {
            text.append(NAMES[below(names)]).append('=');
            expression(2);
        } else if (kind == 3) {
            text.append("#");
            operand(1);
            text.append('=');
            expression(2);
        } else if (kind < 6) {
            text.append("out ");
            expression(3);
        } else if (kind == 6 && call(2)) {
            space();
        } else if (kind <= 7 && inDef) {
            text.append("return ");
            expression(2);
        } else if (kind <= 7) {
            text.append("i=i+1");
        } else {
            compound(kind, depth);
            return;
        }
        text.append(';');
    }

    private void compound(int kind, int depth) {
        text.append(kind < 10 ? "if " : "while ");
        expression(2);
        block(depth);
        if (kind < 10 && chance(50)) {
            text.append("else");
            block(depth);
        }
    }

    private void expression(int depth) {
        operand(depth);
        int count = chance(50) ? 0 : 1 + below(3);
        for (int i = 0; i < count; i++) {
            space();
            text.append(one(BINARY, random));
            space();
            operand(depth - 1);
        }
    }

    private boolean call(int depth) {
        int def = below(DEFS.length);
        boolean isWrong = chance(wrongCalls);
        if (parameters[def] < 0 && !isWrong) {
            return false;
        }
        text.append(DEFS[def]).append('(');
        int arguments = isWrong ? below(3) : parameters[def];
        for (int i = 0; i < arguments; i++) {
            text.append(i == 0 ? "" : ",");
            expression(depth - 1);
        }
        text.append(')');
        return true;
    }

    private void operand(int depth) {
        int kind = below(depth > 0 ? 10 : 5);
        if (kind < 2) {
            text.append(one(NUMBERS, random));
        } else if (kind < 4) {
            text.append(NAMES[below(names)]);
        } else if (kind == 4) {
            text.append(chance(60) ? "in" : "1");
        } else if (kind < 7) {
            text.append(one(new String[] {"-", "!", "#"}, random));
            operand(chance(nesting) ? depth : depth - 1);
        } else if (kind == 7) {
            text.append('(');
            expression(chance(nesting) ? depth : depth - 1);
            text.append(')');
        } else if (!call(depth - 1)) {
            text.append("i");
        }
    }
}
