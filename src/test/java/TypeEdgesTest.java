import java.util.ArrayList;
import java.util.List;

/** Promise 4, reason 3: each sentence of "Types", with operands of i32, of i64 and of nothing, and the PLACES. */
public final class TypeEdgesTest {
    private static final String[] OPERANDS = {"a", "b", "n()"};
    private static final String[] TYPES = {"i32", "i64", "nothing"};
    private static final String HEAD = "global v: i32 = 1; global w: i64 = 1L; fn n() { } fn g(a: i32, b: i64): i32 { }"
            + " fn l(a: i64): i64 { } fn e(): i64 { } fn f(a: i32, b: i64) { ";

    public static void main(String[] args) {
        signsOfTwoSides();
        signsInFront();
        conversions();
        conditions();
        returns();
        assignments();
        alone();
        ownCalls();
        otherCalls();
        partsBeforeTheWhole();
        Bench.finish();
    }

    /** The "#" marks the place, if it is refused; else it is only taken out. */
    private static void judge(String statements, boolean fits) {
        if (fits) {
            Bench.accepted(HEAD + statements.replace("#", "") + " }");
        } else {
            Bench.refused(3, HEAD + statements + " }");
        }
    }

    /** The X is of this type: it can be put where that is asked, and nowhere else. */
    private static void isOf(String x, String type) {
        judge("#var r: i32 = " + x + ";", type.equals("i32"));
        judge("#var r: i64 = " + x + ";", type.equals("i64"));
        judge("#i64(" + x + ");", !type.equals("nothing"));
    }

    private static void signsOfTwoSides() {
        for (String sign : "|| && == != < > <= >= & | ^ << >> >>> + - * / %".split(" ")) {
            boolean logical = sign.equals("||") || sign.equals("&&");
            boolean compares = "== != < > <= >=".contains(sign);
            for (int i = 0; i < 3; i++) {
                for (int k = 0; k < 3; k++) {
                    boolean fits = i == k && i < (logical ? 1 : 2);
                    String x = OPERANDS[i] + " #" + sign + " " + OPERANDS[k];
                    judge(x + ";", fits);
                    judge("var r: i32 = i32((" + x + "));", fits);
                    if (fits) {
                        isOf("(" + x.replace("#", "") + ")", compares ? "i32" : TYPES[i]);
                    }
                }
            }
        }
    }

    private static void signsInFront() {
        for (String sign : new String[] {"-", "!", "~"}) {
            for (int i = 0; i < 3; i++) {
                boolean fits = i == 0 || i == 1 && !sign.equals("!");
                judge("#" + sign + OPERANDS[i] + ";", fits);
                judge("1 + i32(#" + sign + " (" + OPERANDS[i] + "));", fits);
                if (fits) {
                    isOf(sign + OPERANDS[i], TYPES[i]);
                    isOf(sign + sign + OPERANDS[i], TYPES[i]);
                }
            }
        }
    }

    private static void conversions() {
        for (String type : new String[] {"i32", "i64"}) {
            for (int i = 0; i < 3; i++) {
                judge("#" + type + "(" + OPERANDS[i] + ");", i < 2);
                judge("i32(1) + i32(-#" + type + " ( " + OPERANDS[i] + " ));", i < 2);
            }
            isOf(type + "(a)", type);
            isOf(type + "(b)", type);
        }
    }

    private static void conditions() {
        for (int i = 0; i < 3; i++) {
            judge("#if " + OPERANDS[i] + " { }", i == 0);
            judge("1; if a { #if " + OPERANDS[i] + " { } }", i == 0);
            judge("if a { } else #if " + OPERANDS[i] + " { } else { }", i == 0);
            judge("#while " + OPERANDS[i] + " { }", i == 0);
            judge("while a { #while (" + OPERANDS[i] + ") { } }", i == 0);
        }
    }

    /** "return as the FUNCTION (of no TYPE: without X)". */
    private static void returns() {
        String[] results = {": i32", ": i64", ""};
        String[] given = {" a", " b", " n()", ""};
        for (int r = 0; r < 3; r++) {
            for (int i = 0; i < 4; i++) {
                boolean fits = r < 2 ? i == r : i == 3;
                String program = "fn n() { } fn f(a: i32, b: i64)" + results[r] + " { #return" + given[i] + "; }";
                String nested = "fn n() { } fn f(a: i32, b: i64)" + results[r] + " { while 1 { if 1 { #return" + given[i] + "; } } }";
                if (fits) {
                    Bench.accepted(program.replace("#", ""));
                    Bench.accepted(nested.replace("#", ""));
                } else {
                    Bench.refused(3, program);
                    Bench.refused(3, nested);
                }
            }
        }
        Bench.accepted("fn f(): i32 { } fn g(): i64 { if 1 { return 1L; } }");
    }

    /** "NAME = X and var the same". */
    private static void assignments() {
        String[] ofInt = {"a", "v", "x"};
        String[] ofLong = {"b", "w", "y"};
        for (int i = 0; i < 3; i++) {
            for (int k = 0; k < 3; k++) {
                judge("var x: i32 = 1; var y: i64 = 1L; #" + ofInt[k] + " = " + OPERANDS[i] + ";", i == 0);
                judge("var x: i32 = 1; var y: i64 = 1L; if 1 { #" + ofLong[k] + " = " + OPERANDS[i] + "; }", i == 1);
            }
            judge("#var x: i32 = " + OPERANDS[i] + ";", i == 0);
            judge("#var x: i64 = " + OPERANDS[i] + ";", i == 1);
            // a local hides the global of its NAME, with its type
            judge("#var w: i32 = " + OPERANDS[i] + ";", i == 0);
            judge("var v: i64 = 1L; #v = " + OPERANDS[i] + ";", i == 1);
        }
    }

    /** "X alone as S may be any". */
    private static void alone() {
        for (String operand : OPERANDS) {
            judge(operand + ";", true);
            judge("((" + operand + "));", true);
        }
    }

    private static List<List<String>> lists(int most) {
        List<List<String>> all = new ArrayList<>();
        all.add(List.of());
        for (int from = 0, length = 0; length < most; length++) {
            int to = all.size();
            for (; from < to; from++) {
                for (String type : TYPES) {
                    List<String> longer = new ArrayList<>(all.get(from));
                    longer.add(type);
                    all.add(longer);
                }
            }
        }
        return all;
    }

    /** "calls: as many, all X first, then their types". */
    private static void takes(String name, String result, String... types) {
        for (List<String> given : lists(3)) {
            List<String> operands = new ArrayList<>();
            for (String type : given) {
                operands.add(OPERANDS[List.of(TYPES).indexOf(type)]);
            }
            judge("1; #" + name + "(" + String.join(", ", operands) + ");", given.equals(List.of(types)));
        }
        judge("#" + name + "(1, 1, 1, 1, 1, 1, 1, 1);", false);
        StringBuilder fitting = new StringBuilder();
        for (String type : types) {
            fitting.append(fitting.length() == 0 ? "" : ", ").append(OPERANDS[List.of(TYPES).indexOf(type)]);
        }
        isOf(name + "(" + fitting + ")", result);
    }

    private static void ownCalls() {
        takes("load8", "i32", "i32");
        takes("load32", "i32", "i32");
        takes("load64", "i64", "i32");
        takes("store8", "nothing", "i32", "i32");
        takes("store32", "nothing", "i32", "i32");
        takes("store64", "nothing", "i32", "i64");
        takes("size", "i32");
        takes("grow", "i32", "i32");
        takes("trap", "nothing");
    }

    private static void otherCalls() {
        takes("g", "i32", "i32", "i64");
        takes("l", "i64", "i64");
        takes("e", "i64");
        takes("n", "nothing");
    }

    /** "from the left, parts before what they are parts of". */
    private static void partsBeforeTheWhole() {
        Bench.refused(3, HEAD + "(a #+ b) * (b - a); }");
        Bench.refused(3, HEAD + "(a + 1) * (b #- a); }");
        Bench.refused(3, HEAD + "b + (a #* b); }");
        Bench.refused(3, HEAD + "a + a #* b; }");
        Bench.refused(3, HEAD + "a #+ b + b; }");
        Bench.refused(3, HEAD + "a + a #+ b; }");
        Bench.refused(3, HEAD + "#-n() + n(); }");
        Bench.refused(3, HEAD + "n() + #-n(); }");
        Bench.refused(3, HEAD + "g(b, a #+ b); }");
        Bench.refused(3, HEAD + "g(#i32(n()), a + b); }");
        Bench.refused(3, HEAD + "g(1, 2, 3, #!b); }");
        Bench.refused(3, HEAD + "#g(1, g(1, 1L)); }");
        Bench.refused(3, HEAD + "g(1, i64(#g(1, 1))); }");
        Bench.refused(3, HEAD + "a = a #+ b; }");
        Bench.refused(3, HEAD + "var r: i64 = #!b; }");
        Bench.refused(3, HEAD + "return a #< b; }");
        Bench.refused(3, HEAD + "if a #== b { } }");
        Bench.refused(3, HEAD + "while #!b { } }");
        Bench.refused(3, HEAD + "i64(a #^ b); }");
        Bench.refused(2, HEAD + "b || #x; }");
        Bench.refused(2, HEAD + "n() + #x; }");
        Bench.refused(2, HEAD + "#x + n(); }");
        Bench.refused(2, HEAD + "g(#x); }");
        Bench.refused(2, HEAD + "#x = 1L; }");
        Bench.refused(2, HEAD + "x = #y; }");
        Bench.refused(3, HEAD + "x = a #+ b; }");
        Bench.refused(2, HEAD + "var a: i32 = #x; }");
        Bench.refused(3, HEAD + "#var a: i32 = 1L; }");
        Bench.refused(4, HEAD + "#var a: i32 = 1; }");
        // the first statement's fault before the next one's, the condition's before the BLOCK's, the BLOCK's before the else's
        Bench.refused(3, HEAD + "if a #+ b { x; } else { y; } }");
        Bench.refused(2, HEAD + "if a { #x; } else { a + b; } }");
        Bench.refused(3, HEAD + "if a { } else { a #+ b; } x; }");
        Bench.refused(3, HEAD + "while a #+ b { x; } }");
        Bench.refused(2, HEAD + "while a { #x; } a + b; }");
    }
}
