import java.util.Random;

/**
 * Promise 4, "5 too many, at the first byte of the first one more, if a sign, or the end, is there, else 1 (as soon as it
 * is met)": each number at its most, and one more, with whatever may stand there.
 */
public final class TooManyEdgesTest {
    public static void main(String[] args) {
        globals();
        functions();
        parameters();
        given();
        openX();
        openInFront();
        openBlocks();
        openIfs();
        openInAnyNest();
        openIsGivenBack();
        twoSides();
        asSoonAsItIsMet();
        Bench.finish();
    }

    private static String row(int times, String form) {
        StringBuilder text = new StringBuilder();
        for (int i = 0; i < times; i++) {
            text.append(form.replace("?", "" + i));
        }
        return text.toString();
    }

    /** Whatever stands there: 5 for each sign and the end, 1 for what is no sign, too great or too long. */
    private static void oneMore(String before) {
        for (String sign : Grammar.allSigns()) {
            Bench.refused(before + sign, Grammar.kindOf(sign).equals("WRONG") ? 1 : 5, before.length());
            Bench.refused(before + sign + " @", Grammar.kindOf(sign).equals("WRONG") ? 1 : 5, before.length());
        }
        Bench.refused(before, 5, before.length());
        Bench.refused(before + " \n// @", 5, before.length() + 6);
        Bench.refused(before + "// @\n name", 5, before.length() + 6);
    }

    /** With one less what can't stand there is 1, and not yet too many. */
    private static void notYet(String before, String stands) {
        for (String sign : Grammar.allSigns()) {
            if (!stands.contains(" " + Grammar.kindOf(sign) + " ")) {
                Bench.refused(before + sign, 1, before.length());
            }
        }
        Bench.refused(before, 1, before.length());
    }

    private static void globals() {
        String most = row(20, "global g?: i32 = 1;");
        Bench.accepted(most + "fn f() { }");
        Bench.accepted("fn f() { }" + most);
        oneMore(most + "global ");
        oneMore(row(10, "global g?: i32 = 1;") + "fn f() { } " + row(10, "global h?: i64 = 1L;") + "global ");
        notYet(row(19, "global g?: i32 = 1;") + "global ", " NAME ");
        Bench.due("20 globals", Bench.compiled(most + "fn f() { }").count(5), 20);
    }

    private static void functions() {
        String most = row(20, "fn f?() { }");
        Bench.accepted(most + row(20, "global g?: i32 = 1;"));
        oneMore(most + "fn ");
        oneMore(row(10, "fn f?() { }") + row(20, "global g?: i32 = 1;") + row(10, "fn h?() { }") + "fn ");
        notYet(row(19, "fn f?() { }") + "fn ", " NAME ");
        Bench.due("20 functions", Bench.compiled(most).count(4), 20);
    }

    private static void parameters() {
        String most = "p?: i32,".replace("?", "0") + row(6, "q?: i64, ") + "r: i32";
        WaferForge forge = Bench.compiled("fn f(" + most + "): i32 { return r; } fn g(" + most + ") { }");
        Bench.due("the 8th of 8", Bench.called(forge, 0, 1, 2, 3, 4, 5, 6, 7, 8), 8);
        oneMore("fn f(" + most + ", ");
        oneMore("fn g(a: i32) { } fn f(" + most + ", ");
        notYet("fn f(" + row(7, "p?: i32, "), " NAME ");
    }

    private static void given() {
        for (String called : new String[] {"f", "load8", "store64", "size", "trap", "other"}) {
            String most = called + "(" + row(7, "?, ") + "7";
            oneMore("fn f() { " + most + ", ");
            oneMore("fn f() { 1 + " + called + "(" + row(7, "f(1, 2), ") + "7, ");
            notYet("fn f() { " + called + "(" + row(7, "?, "),
                    " NAME INT LONG ( - ! ~ i32 i64 load8 load32 load64 store8 store32 store64 size grow trap ");
        }
        Bench.refused(3, "fn f() { #f(1, 2, 3, 4, 5, 6, 7, 8); }");
        String parameters = row(7, "p?: i32, ") + "q: i32";
        Bench.accepted("fn f(" + parameters + "): i32 { return f(1, 2, 3, 4, 5, 6, 7, f(1, 2, 3, 4, 5, 6, 7, 8)); }");
    }

    /** "40 open at a time of BLOCKS, ifs, X, and - ! ~ in front": of X, the statement's own is one. */
    private static void openX() {
        String head = "fn g(a: i32): i32 { } fn h(a: i32, b: i32): i32 { } fn f() { ";
        String[] opening = {"(", "i32(", "i64(", "g(", "h(1, ", "load8(", "1 + ("};
        for (String one : opening) {
            Bench.accepted(head + one.repeat(38) + "1" + ")".repeat(38) + "; }");
            String most = head + one.repeat(38) + one.replace("1, ", "");
            for (String sign : Grammar.allSigns()) {
                boolean endsCall = sign.equals(")") && one.matches("[gh]\\(.*|load8\\(");
                if (!endsCall) {
                    Bench.refused(most + sign, Grammar.kindOf(sign).equals("WRONG") ? 1 : 5, most.length());
                }
            }
            Bench.refused(most, 5, most.length());
            Bench.refused(most + "// @", 5, most.length() + 4);
        }
        Bench.refused(3, head + "g(".repeat(37) + "#g()" + ")".repeat(37) + "; }");
        Bench.accepted(head + "g(".repeat(38) + "size()" + ")".repeat(38) + "; }");
    }

    private static void openInFront() {
        for (String sign : new String[] {"-", "!", "~"}) {
            Bench.accepted("fn f() { " + sign.repeat(38) + "1; }");
            Bench.accepted("fn f() { " + (sign + "(").repeat(19) + "1" + ")".repeat(19) + "; }");
            for (String other : new String[] {"-", "!", "~"}) {
                Bench.refused(5, "fn f() { " + sign.repeat(38) + "#" + other + "1; }");
                Bench.refused(5, "fn f() { " + sign.repeat(38) + "#" + other);
                Bench.refused(5, "fn f() { " + (sign + "(").repeat(19) + "#" + other + "1");
            }
            // an operand is none of those that are counted, so what can't stand there is 1 as ever
            Bench.refused(1, "fn f() { " + sign.repeat(38) + "#;");
            Bench.refused(1, "fn f() { " + sign.repeat(38) + "#@");
            Bench.refused("fn f() { " + sign.repeat(38), 1, 47);
            Bench.refused(5, "fn f() { " + sign.repeat(38) + "(#1);");
        }
    }

    private static void openBlocks() {
        String whiles = "fn f() { " + "while 1 {".repeat(39);
        Bench.accepted(whiles + "}".repeat(40));
        Bench.accepted(whiles + "break; continue; return; " + "}".repeat(40));
        for (String x : new String[] {"#1;", "#a;", "#f();", "#(1);", "#-1;", "#i32(1);", "a = #1;", "var a: i32 = #1;",
            "return #1;", "while #1 { }", "#if 1 { }", "break; #1;", "a = #", "return #"}) {
            Bench.refused(5, whiles + x);
        }
        for (String other : new String[] {"a = #@", "return #@", "while #@", "#@", "var #;", "break #1;"}) {
            Bench.refused(1, whiles + other);
        }
    }

    private static void openIfs() {
        String ifs = "fn f() { " + "if 1 {".repeat(19);
        Bench.accepted(ifs + "1; while 1 { }" + "}".repeat(20));
        Bench.refused(5, ifs + "#-1;");
        Bench.refused(5, ifs + "if #1 { }");
        Bench.refused(5, ifs + "while 1 { #1; }");
        Bench.refused(5, ifs + "while 1 { #if");
        String chain = "fn f() { " + "if 1 { } else ".repeat(37);
        Bench.accepted(chain + "if 1 { } else { } }");
        Bench.refused(5, chain + "if 1 { #1; } }");
        Bench.refused(5, chain + "if 1 { } else if #1 { } }");
        Bench.refused(5, chain + "if (#1) { } }");
        Bench.refused(5, chain + "if 1 { } else { while #1 { } } }");
    }

    /** Nests of all kinds, drawn by chance, with what is open counted on the way: where the 41st would begin is the place. */
    private static void openInAnyNest() {
        Random random = new Random(40);
        int taken = 0;
        for (int n = 0; n < 3000; n++) {
            Nest nest = new Nest(random);
            nest.text.append("fn g(a: i32): i32 { } fn h(a: i32, b: i32): i32 { } fn f() ");
            nest.block(36 + random.nextInt(7));
            String program = nest.text.toString();
            if (nest.tooMany >= 0) {
                Bench.refused(program, 5, nest.tooMany);
            } else {
                taken++;
                Bench.accepted(program);
            }
        }
        Bench.due("both kinds were drawn", taken > 300 && taken < 2700 ? 1 : 0, 1);
    }

    private static final class Nest {
        final StringBuilder text = new StringBuilder();
        int tooMany = -1;
        private final Random random;
        private int open;

        Nest(Random random) {
            this.random = random;
        }

        private void enter() {
            open++;
            if (open > 40 && tooMany < 0) {
                tooMany = text.length();
            }
        }

        void block(int more) {
            enter();
            text.append("{ ");
            statement(more - 1);
            text.append("} ");
            open--;
        }

        private void statement(int more) {
            int kind = more <= 0 ? 9 : random.nextInt(6);
            if (kind <= 1) {
                text.append("while ");
                x(0);
                block(more);
            } else if (kind == 2) {
                enter();
                text.append("if ");
                x(0);
                block(more - 1);
                open--;
            } else if (kind == 3) {
                enter();
                text.append("if 1 { } else ");
                if (random.nextBoolean()) {
                    block(more - 1);
                } else {
                    statementIf(more - 1);
                }
                open--;
            } else if (kind <= 5) {
                text.append(kind == 4 && open == 1 ? "var v: i32 = " : "");
                x(more);
                text.append("; ");
            } else {
                text.append("return; ");
            }
        }

        private void statementIf(int more) {
            enter();
            text.append("if ");
            x(0);
            block(more - 1);
            open--;
        }

        private void x(int more) {
            enter();
            u(more - 1, false);
            open--;
        }

        private void u(int more, boolean inFront) {
            String[] before = {"(", "i32(", "g(", "h(", "1 + (", "load8("};
            int kind = more <= 0 ? 9 : random.nextInt(9);
            if (kind < before.length) {
                // a sign in front belongs to the next operand alone
                text.append(before[kind == 4 && inFront ? 0 : kind]);
                if (kind == 3) {
                    x(0);
                    text.append(", ");
                }
                x(more);
                text.append(") ");
            } else if (kind < 9) {
                enter();
                text.append("-!~".charAt(kind - 6));
                u(more - 1, true);
                open--;
            } else {
                text.append("1 ");
            }
        }
    }

    /** What is closed is no more open: rows of nests, each of the most. */
    private static void openIsGivenBack() {
        for (String nest : new String[] {"(".repeat(38) + "1" + ")".repeat(38) + ";", "-".repeat(38) + "1;",
            "if 1 {".repeat(19) + "1;" + "}".repeat(19), "while 1 {".repeat(39) + "}".repeat(39),
            "if 1 {} else ".repeat(37) + "if 1 {}"}) {
            Bench.accepted("fn f() { " + nest + nest + " } fn g() { " + nest + " }");
        }
        Bench.accepted("fn f() { " + "1;".repeat(100) + "if 1 {}".repeat(50) + "while 1 {}".repeat(50) + "-1;!1;~1;".repeat(30) + "}");
        Bench.accepted("fn f() { " + "(".repeat(37) + "-1 + !1 + (1) + ~1" + ")".repeat(37) + "; }");
    }

    /** "200 signs of two sides in a FUNCTION". */
    private static void twoSides() {
        for (String sign : "|| && & | ^ << >> >>> + - * / %".split(" ")) {
            Bench.accepted("fn f() { 1" + (sign + "1").repeat(200) + "; }");
            Bench.refused(5, "fn f() { 1" + (sign + "1").repeat(200) + "#" + sign + "1; }");
        }
        for (String sign : "== != < > <= >=".split(" ")) {
            Bench.accepted("fn f() { " + ("1" + sign + "1;").repeat(200) + " }");
            Bench.refused(5, "fn f() { " + ("1" + sign + "1;").repeat(200) + "1 #" + sign + " 1; }");
            // one that can't stand there is 1, be it the 201st or not
            Bench.refused(1, "fn f() { " + ("1" + sign + "1;").repeat(200) + "1; #" + sign + " 1; }");
            Bench.refused(1, "fn f() { " + ("1" + sign + "1;").repeat(199) + "1" + sign + "1 #" + sign + " 1; }");
        }
        String most = "if 1+1 { } while 1+1 { 1+1; break; } f(1+1, (1+1), -1+1); var a: i32 = 1+1; a = 1+1; load8(1+1);";
        Bench.accepted("fn f(a1: i32, b1: i32, c1: i32) { " + most + "1" + "+1".repeat(191) + "; return; }");
        Bench.refused(5, "fn f(a1: i32, b1: i32, c1: i32) { " + most + "1" + "+1".repeat(191) + "; if 1 #+ 1 { } }");
        Bench.accepted("fn f() { 1" + "+1".repeat(200) + "; - 1; !1; ~1; " + "-1;".repeat(100) + "}");
        Bench.accepted("fn f() { 1" + "+1".repeat(200) + "; } fn g() { 1" + "*1".repeat(200) + "; } fn h() { 1" + "-1".repeat(200) + "; }");
        Bench.refused(5, "fn f() { 1" + "+1".repeat(200) + "; } fn g() { 1" + "*1".repeat(200) + "#*1; }");
        Bench.refused(5, "fn f() { 1" + "+1".repeat(200) + "#+");
        Bench.refused(5, "fn f() { 1" + "+1".repeat(200) + "#+ @");
        Bench.refused(1, "fn f() { 1" + "+1".repeat(200) + "#@");
        Bench.accepted("global a: i32 = -1; fn f() { 1" + "+1".repeat(200) + "; } global b: i32 = -1;");
    }

    private static void asSoonAsItIsMet() {
        String[] tooMany = {row(20, "global g?: i32 = 1;") + "global #", row(20, "fn f?() { }") + "fn #",
            "fn f(" + row(8, "p?: i32, ") + "#", "fn f() { f(" + row(8, "?, ") + "#", "fn f() { " + "(".repeat(39) + "#",
            "fn f() { 1" + "+1".repeat(200) + "#+"};
        for (String text : tooMany) {
            Bench.refused(5, text + "1 ; @ 99999999999");
            Bench.refused(5, text + "- fn fn fn");
            // names and types are looked at only when the whole is a PROGRAM
            Bench.refused(5, "fn z(a: i32, a: i32) { x; 1 + 1L; break; } ".repeat(text.contains("f19") ? 0 : 2) + text + "1");
        }
        Bench.refused(1, "fn f() { 1; #; } fn f(" + row(9, "p?: i32, "));
        Bench.refused(5, "fn f() { x; 1 + 1L; break; } fn f(" + row(8, "p?: i32, ") + "#p8: i32) { }");
    }
}
