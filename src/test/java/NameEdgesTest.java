/**
 * Promise 4, reasons 4, 5 (of locals), 2 and 6: "a NAME of a global, then of a FUNCTION, that an earlier one has; then
 * FUNCTION by FUNCTION, from the left, parts before what they are parts of".
 */
public final class NameEdgesTest {
    public static void main(String[] args) {
        globalsAndFunctions();
        parametersAndVars();
        whereVarsAreKnown();
        mostLocals();
        missingNames();
        missingFunctions();
        noWhile();
        orderOfReasons();
        Bench.finish();
    }

    private static void globalsAndFunctions() {
        Bench.refused(4, "global a: i32 = 1; global b: i32 = 1; global c: i32 = 1; global #b: i32 = 1; global a: i32 = 1; fn f() { }");
        Bench.refused(4, "global a: i32 = 1; fn f() { } global #a: i32 = 1;");
        Bench.refused(4, "global a: i32 = 1; global #a: i32 = 1; global a: i32 = 1; fn f() { }");
        Bench.refused(4, "fn a() { } fn b() { } fn c() { } fn #b() { } fn a() { }");
        Bench.refused(4, "fn a() { } fn #a(x: i32): i64 { }");
        // globals first, wherever they stand
        Bench.refused(4, "fn a() { } fn a() { } global g: i32 = 1; global #g: i32 = 1;");
        // FUNCTIONS before what is in them
        Bench.refused(4, "fn a(x: i32, x: i32) { y; } fn #a() { }");
        // the last of the most
        StringBuilder globals = new StringBuilder();
        StringBuilder functions = new StringBuilder();
        for (int i = 0; i < 19; i++) {
            globals.append("global n").append(i).append(": i32 = 1; ");
            functions.append("fn n").append(i).append("() { } ");
        }
        Bench.refused(4, globals + "global #n18: i32 = 1; " + functions);
        Bench.refused(4, globals + "global #n0: i32 = 1; " + functions);
        Bench.refused(4, globals + functions.toString() + "fn #n18() { }");
        Bench.refused(4, globals + functions.toString() + "fn #n0() { }");
        Bench.accepted(globals + "global n19: i32 = 1; " + functions + "fn n19() { }");
        // one NAME for a global and a FUNCTION, and all of it counts
        Bench.accepted("global a: i32 = 1; fn a(): i32 { return a + a(); }");
        Bench.accepted("global ab: i32 = 1; global a: i32 = 1; global abc: i32 = 1; global b: i32 = 1; global aB: i32 = 1; fn f() { }");
    }

    private static void parametersAndVars() {
        Bench.refused(4, "fn f(a: i32, #a: i32) { }");
        Bench.refused(4, "fn f(a: i32, b: i32, c: i64, #b: i64, a: i32) { }");
        Bench.refused(4, "fn f(a: i32, b: i32, c: i32, d: i32, e: i32, g: i32, h: i32, #a: i32) { }");
        Bench.refused(4, "fn f(a: i32) { #var a: i64 = 1L; }");
        Bench.refused(4, "fn f(a: i32) { while 1 { if 1 { } else { #var a: i32 = 1; } } }");
        Bench.refused(4, "fn f() { var a: i32 = 1; var b: i32 = 1; #var a: i32 = 2; }");
        Bench.refused(4, "fn f() { var a: i32 = 1; if 1 { #var a: i32 = 2; } }");
        Bench.refused(4, "fn f() { if 1 { var a: i32 = 1; while 1 { #var a: i32 = 2; } } }");
        Bench.accepted("fn f(a: i32) { } fn g(a: i32) { var b: i32 = a; } fn h() { var a: i32 = 1; var b: i32 = 1; }");
        Bench.accepted("global a: i32 = 1; fn f(a: i64, f: i32) { var g: i32 = f; } fn g() { var a: i64 = 1L; var f: i32 = 1; }");
    }

    /** "a local known there (of parameters, and vars before in this and outer BLOCKS)". */
    private static void whereVarsAreKnown() {
        Bench.accepted("fn f() { if 1 { var a: i32 = 1; } var a: i64 = 1L; a = 2L; }");
        Bench.accepted("fn f() { if 1 { var a: i32 = 1; a = 1; } else { var a: i64 = 1L; a = 1L; } while 1 { var a: i32 = 1; } }");
        Bench.accepted("fn f() { while 1 { var a: i32 = 1; } while 1 { var a: i32 = 1; } if 1 { var a: i32 = 1; } else if 1 { var a: i32 = 1; } }");
        Bench.refused(2, "fn f() { if 1 { var a: i32 = 1; } #a; }");
        Bench.refused(2, "fn f() { if 1 { var a: i32 = 1; } else { #a; } }");
        Bench.refused(2, "fn f() { while 1 { var a: i32 = 1; } #a = 1; }");
        Bench.refused(2, "fn f() { #a; var a: i32 = 1; }");
        Bench.refused(2, "fn f() { var a: i32 = #a; }");
        Bench.refused(2, "fn f() { var a: i32 = 1 + #a; }");
        WaferForge forge = Bench.compiled("global a: i32 = 5; fn f(): i32 { var b: i32 = a; var a: i64 = i64(a) + 2L;"
                + " if 1 { a = a + 10L; } return b * 100 + i32(a); } fn g(): i32 { if 1 { var a: i32 = 7; a = 8; } a = a + 1; return a; }");
        Bench.due("a local, else the global", forge.call(0), 517);
        Bench.due("the global behind the BLOCK", forge.call(1), 6);
        Bench.due("the global", forge.global(0), 6);
        WaferForge inner = Bench.compiled("fn f(a: i32): i32 { if a { var b: i32 = 1; a = b; } else { var b: i32 = 2; a = b; }"
                + " var b: i32 = 10; return a + b; } fn g(): i32 { var k: i32 = 0; while k < 3 { var t: i32 = k + 1; k = t; } var t: i32 = 5; return k + t; }");
        Bench.due("each var is its own", Bench.called(inner, 0, 1), 11);
        Bench.due("each var is its own", Bench.called(inner, 0, 0), 12);
        Bench.due("each var is its own", inner.call(1), 8);
    }

    private static String vars(int from, int to) {
        StringBuilder text = new StringBuilder();
        for (int i = from; i < to; i++) {
            text.append("var v").append(i).append(":i32=1;");
        }
        return text.toString();
    }

    /** "5 above 50 locals, parameters and vars of all BLOCKS of the FUNCTION (the var)". */
    private static void mostLocals() {
        String eight = "a: i32, b: i32, c: i32, d: i32, e: i32, f: i32, g: i32, h: i64";
        Bench.accepted("fn f() { " + vars(0, 50) + "}");
        Bench.refused(5, "fn f() { " + vars(0, 50) + "#var w: i32 = 1; }");
        Bench.refused(5, "fn f() { " + vars(0, 50) + "#var w: i64 = 1L; var x: i32 = 1; }");
        Bench.accepted("fn f(" + eight + ") { " + vars(0, 42) + "}");
        Bench.refused(5, "fn f(" + eight + ") { " + vars(0, 42) + "#var w: i32 = 1; }");
        Bench.accepted("fn f(a: i32) { " + vars(0, 49) + "}");
        Bench.refused(5, "fn f(a: i32) { " + vars(0, 49) + "#var w: i32 = 1; }");
        // those of BLOCKS that are closed count, too
        Bench.accepted("fn f() { if 1 { " + vars(0, 25) + "} else { " + vars(0, 24) + "} var w: i32 = 1; }");
        Bench.refused(5, "fn f() { if 1 { " + vars(0, 25) + "} else { " + vars(0, 25) + "} #var w: i32 = 1; }");
        Bench.refused(5, "fn f() { if 1 { " + vars(0, 50) + "} while 1 { if 1 { #var w: i32 = 1; } } }");
        Bench.accepted("fn f() { " + "while 1 {var a:i32=1;}".repeat(50) + "}");
        Bench.refused(5, "fn f() { " + "while 1 {var a:i32=1;}".repeat(50) + "if 1 {#var a:i32=1;}}");
        // each FUNCTION has its own
        Bench.accepted("fn f() { " + vars(0, 50) + "} fn g() { " + vars(0, 50) + "}");
        Bench.refused(5, "fn f() { " + vars(0, 50) + "} fn g() { " + vars(0, 50) + "#var w: i32 = 1; }");
        // the X, its type and the NAME come before
        String full = "fn f() { " + vars(0, 50);
        Bench.refused(2, full + "var w: i32 = #x; }");
        Bench.refused(3, full + "#var w: i32 = 1L; }");
        Bench.refused(4, full + "#var v3: i32 = 1; }");
        Bench.refused(3, full + "#var v3: i32 = 1L; }");
        Bench.refused(2, full + "#x; var w: i32 = 1; }");
        Bench.refused(5, full + "#var w: i32 = 1; x; }");
        WaferForge forge = Bench.compiled("fn f(): i32 { " + vars(0, 49) + "var w: i32 = 40; w = w + v48 + v0; return w; }");
        Bench.due("the 50th", forge.call(0), 42);
    }

    /** "2 a NAME (local, else global) that there is not in all of the PROGRAM". */
    private static void missingNames() {
        String[] places = {"#x;", "#x = 1;", "1 + #x;", "-#x;", "!#x;", "~#x;", "(#x);", "i32(#x);", "f(#x);", "f(1, #x);",
            "load8(#x);", "store32(1, #x);", "if #x { }", "while #x { }", "if 1 { } else if #x { }", "return #x;", "a = #x;",
            "var v: i32 = #x;", "if 1 { #x; }", "while 1 { #x; }", "if 1 { } else { #x; }", "1 && #x;", "#x || 1;", "1 < #x;"};
        for (String place : places) {
            Bench.refused(2, "fn f(a: i32) { " + place + " }");
            Bench.refused(2, "fn f(a: i32) { " + place + " } fn x() { }");
            Bench.refused(2, "fn f(a: i32) { " + place + " } fn g(x: i32) { var y: i32 = 1; }");
            Bench.refused(2, "fn g() { var x: i32 = 1; } fn f(a: i32) { " + place + " }");
            String there = "fn f(a: i32) { " + place.replace("#", "") + " } global x: i32 = 1;";
            WaferForge forge = new WaferForge();
            Bench.tape(forge, there);
            try {
                forge.compile();
            } catch (UnsupportedOperationException e) {
                // types may be wrong, as of the calls of f, and no more than these
            }
            Bench.due("reason of " + there, forge.count(2) == 0 || forge.count(2) == 3 ? 1 : 0, 1);
        }
    }

    private static void missingFunctions() {
        for (String place : new String[] {"#x();", "#x(1);", "1 + #x();", "a = #x();", "if #x() { }", "f(#x());", "return #x();"}) {
            Bench.refused(2, "fn f(a: i32) { " + place + " }");
            Bench.refused(2, "global x: i32 = 1; fn f(a: i32) { var b: i32 = a; " + place + " }");
            Bench.refused(2, "fn f(x: i32) { var a: i32 = 1; " + place + " }");
        }
        Bench.accepted("fn f() { g(); } fn g() { h(); f(); } fn h() { h(); }");
        Bench.accepted("fn f(f: i32): i32 { return f(f); }");
    }

    /** "6 break, continue in no while". */
    private static void noWhile() {
        for (String word : new String[] {"break", "continue"}) {
            Bench.refused(6, "fn f() { #" + word + "; }");
            Bench.refused(6, "fn f() { if 1 { #" + word + "; } }");
            Bench.refused(6, "fn f() { if 1 { } else { #" + word + "; } }");
            Bench.refused(6, "fn f() { while 1 { } #" + word + "; }");
            Bench.refused(6, "fn f() { while 1 { while 1 { } " + word + "; } #" + word + "; }");
            Bench.refused(6, "fn f() { while 1 { " + word + "; } } fn g() { #" + word + "; }");
            Bench.refused(6, "fn f() { #" + word + "; break; continue; }");
            Bench.accepted("fn f() { while 1 { " + word + "; if 1 { " + word + "; } else { if 1 { " + word + "; } } " + word + "; } }");
        }
    }

    /** Of two faults the one that comes first in the order is told. */
    private static void orderOfReasons() {
        Bench.refused(3, "fn f(a: i32) { a #+ 1L; break; }");
        Bench.refused(6, "fn f(a: i32) { #break; a + 1L; }");
        Bench.refused(2, "fn f(a: i32) { #x; break; }");
        Bench.refused(6, "fn f(a: i32) { #break; x; }");
        Bench.refused(4, "fn f(a: i32) { #var a: i32 = 1; x; }");
        Bench.refused(2, "fn f(a: i32) { #x; var a: i32 = 1; }");
        Bench.refused(4, "fn f(a: i32, #a: i32) { x; }");
        Bench.refused(6, "fn f() { #break; } fn g(a: i32, a: i32) { }");
        Bench.refused(4, "fn f(a: i32, #a: i32) { } fn g() { break; }");
        Bench.refused(1, "fn f(a: i32, a: i32) { break; x; } fn f() { } fn #");
    }
}
