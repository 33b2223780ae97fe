/** Promise 4: compile; names, types and break (reasons 2, 3, 4 and 6, and 5 of locals), and their order. */
public final class CompileMeaningTest {
    public static void main(String[] args) {
        namesTaken();
        namesMissing();
        typesOfSigns();
        typesOfCalls();
        typesOfStatements();
        loops();
        locals();
        order();
        moduleBeforeStays();
        Bench.finish();
    }

    private static String inside(String statements) {
        return "global w: i64 = 1L; fn g(a: i32, b: i64): i32 { return a; } fn n() { } fn f(a: i32, b: i64) { "
                + statements + " }";
    }

    private static void namesTaken() {
        Bench.refused(4, "global a: i32 = 1; global #a: i64 = 2L; fn f() { }");
        Bench.refused(4, "fn f() { } fn #f() { }");
        Bench.refused(4, "fn f(a: i32, #a: i64) { }");
        Bench.refused(4, "fn f(a: i32) { #var a: i32 = 1; }");
        Bench.refused(4, "fn f() { var a: i32 = 1; #var a: i32 = 1; }");
        Bench.refused(4, "fn f() { var a: i32 = 1; while 1 { if 1 { #var a: i32 = 1; } } }");
        Bench.accepted("fn f() { if 1 { var a: i32 = 1; } else { var a: i64 = 1L; } var a: i32 = 1; }");
        Bench.accepted("global f: i32 = 1; fn f(f: i64) { f(f); } fn g() { f = f + 1; var f: i64 = 1L; f(f); }");
        Bench.accepted("fn f() { } fn F() { } fn ff() { }");
    }

    private static void namesMissing() {
        Bench.refused(2, inside("#x;"));
        Bench.refused(2, inside("#x = 1;"));
        Bench.refused(2, inside("#x();"));
        Bench.refused(2, inside("1 + #x + y;"));
        Bench.refused(2, inside("var x: i32 = #x;"));
        Bench.refused(2, inside("if 1 { var x: i32 = 1; } #x = 1;"));
        Bench.refused(2, inside("#g;"));
        Bench.refused(2, inside("#g = 1;"));
        Bench.refused(2, inside("#w();"));
        Bench.refused(2, inside("#a(1);"));
        Bench.refused(2, inside("#x(1, 2);"));
        Bench.accepted("fn f() { h(); x = 1; } fn h() { } global x: i32 = 1;");
        Bench.refused(2, "fn f() { var x: i32 = 1; } fn h() { #x; }");
    }

    private static void typesOfSigns() {
        for (String sign : "== != < > <= >= & | ^ << >> >>> + - * / %".split(" ")) {
            Bench.accepted(inside("a " + sign + " 1; b " + sign + " w;"));
            Bench.refused(3, inside("a #" + sign + " b;"));
            Bench.refused(3, inside("b #" + sign + " 1;"));
            Bench.refused(3, inside("n() #" + sign + " n();"));
        }
        for (String sign : new String[] {"==", "!=", "<", ">", "<=", ">="}) {
            Bench.accepted(inside("a = b " + sign + " b;"));
            Bench.refused(3, inside("#b = b " + sign + " b;"));
        }
        for (String sign : new String[] {"||", "&&"}) {
            Bench.accepted(inside("a = a " + sign + " 1;"));
            Bench.refused(3, inside("b #" + sign + " b;"));
            Bench.refused(3, inside("a #" + sign + " b;"));
            Bench.refused(3, inside("n() #" + sign + " n();"));
        }
        Bench.accepted(inside("a = -a; b = -b; a = !a; a = ~a; b = ~b; a = i32(a); a = i32(b); b = i64(a); b = i64(b);"));
        Bench.refused(3, inside("#!b;"));
        for (String sign : new String[] {"-", "!", "~"}) {
            Bench.refused(3, inside("#" + sign + "n();"));
        }
        Bench.refused(3, inside("#i32(n());"));
        Bench.refused(3, inside("#i64(trap());"));
        Bench.accepted(inside("(n()); ((trap()));"));
    }

    private static void typesOfCalls() {
        Bench.accepted(inside("a = g(a, b); g(1, 1L); n(); a = load8(a); a = load32(a); b = load64(a); store8(a, a);"
                + "store32(a, a); store64(a, b); a = size(); a = grow(a); trap();"));
        String[] wrong = {"g()", "g(1)", "g(1, 1)", "g(1L, 1L)", "g(1, 1L, 1)", "g(n(), 1L)", "n(1)", "load8()",
            "load8(b)", "load8(a, a)", "load32(b)", "load64(b)", "store8(a)", "store8(a, b)", "store8(b, a)",
            "store32(a, b)", "store32(a, a, a)", "store64(a, a)", "store64(b, b)", "size(a)", "grow()", "grow(b)",
            "trap(a)", "load8(n())"};
        for (String call : wrong) {
            Bench.refused(3, inside("#" + call + ";"));
        }
        for (String call : new String[] {"n()", "store8(1, 1)", "store32(1, 1)", "store64(1, 1L)", "trap()"}) {
            Bench.refused(3, inside("#a = " + call + ";"));
        }
        for (String call : new String[] {"g(a, b)", "load8(1)", "load32(1)", "size()", "grow(1)"}) {
            Bench.refused(3, inside("#b = " + call + ";"));
        }
        Bench.refused(3, inside("#a = load64(1);"));
    }

    private static void typesOfStatements() {
        Bench.refused(3, inside("#var x: i32 = 1L;"));
        Bench.refused(3, inside("#var x: i64 = 1;"));
        Bench.refused(3, inside("#var x: i32 = n();"));
        Bench.refused(3, inside("#a = 1L;"));
        Bench.refused(3, inside("#w = 1;"));
        Bench.refused(3, inside("#if 1L { }"));
        Bench.refused(3, inside("#if n() { }"));
        Bench.refused(3, inside("if 1 { } else #if b { }"));
        Bench.refused(3, inside("#while b { }"));
        Bench.refused(3, inside("#while n() { }"));
        Bench.refused(3, inside("#return 1;"));
        Bench.refused(3, inside("#return n();"));
        Bench.refused(3, "fn f(): i32 { #return; }");
        Bench.refused(3, "fn f(): i32 { #return 1L; }");
        Bench.refused(3, "fn f(): i64 { #return 1; }");
        Bench.refused(3, "fn f(): i64 { #return trap(); }");
        Bench.accepted("fn f(): i64 { return 1L; } fn g() { return; } fn h(): i32 { }");
        Bench.accepted("global a: i32 = 1; fn f(a: i64) { a = 1L; var b: i64 = a; } fn g() { a = 1; }");
    }

    private static void loops() {
        Bench.refused(6, "fn f() { #break; }");
        Bench.refused(6, "fn f() { #continue; }");
        Bench.refused(6, "fn f() { while 1 { } if 1 { #break; } }");
        Bench.refused(6, "fn f() { while 1 { while 1 { } continue; } #continue; }");
        Bench.accepted("fn f() { while 1 { if 1 { break; } else { continue; } while 1 { break; } continue; } }");
    }

    private static void locals() {
        StringBuilder vars = new StringBuilder();
        for (int i = 0; i < 48; i++) {
            vars.append(i % 2 == 0 ? "while 0 { " : "").append("var v").append(i).append(":i32=1;")
                    .append(i % 2 == 0 ? "}" : "");
        }
        Bench.accepted("fn f(a: i32, b: i32) { " + vars + " } fn g() { var a: i32 = 1; }");
        Bench.refused(5, "fn f(a: i32, b: i32) { " + vars + " #var v: i32 = 1; }");
        Bench.refused(5, "fn f(a: i32, b: i32) { " + vars + " while 1 { #var v: i32 = 1; } }");
        Bench.refused(4, "fn f(a: i32, b: i32) { " + vars + " #var a: i32 = 1; }");
        Bench.refused(3, "fn f(a: i32, b: i32) { " + vars + " #var v: i32 = 1L; }");
        Bench.accepted("fn f(a: i32, b: i32) { " + vars + " }" + "fn g(a: i32) { var b: i32 = 1; }");
    }

    private static void order() {
        Bench.refused(1, "fn f() { x; } fn f() { } #;");
        Bench.refused(5, "fn f() { x; } fn f() { f(1, 2, 3, 4, 5, 6, 7, 8, #9); }");
        Bench.refused(4, "fn f() { x; } fn f() { } global g: i32 = 1; global #g: i32 = 1;");
        Bench.refused(4, "fn f() { x; } fn #f() { }");
        Bench.refused(6, "fn f() { #break; } fn g(a: i32, a: i32) { }");
        Bench.refused(4, "fn f(a: i32, #a: i32) { x; }");
        Bench.refused(2, inside("#x + (a + b);"));
        Bench.refused(3, inside("a #+ b + x;"));
        Bench.refused(2, inside("b + (a * #x);"));
        Bench.refused(2, inside("y = #x;"));
        Bench.refused(2, inside("#y = 1L;"));
        Bench.refused(2, inside("y(#x);"));
        Bench.refused(3, inside("y(a #+ b);"));
        Bench.refused(2, inside("g(1L, #x);"));
        Bench.refused(2, inside("b || #x;"));
        Bench.refused(2, inside("-!#x;"));
        Bench.refused(3, inside("-#!b;"));
        Bench.refused(2, inside("var a: i32 = #x;"));
        Bench.refused(3, inside("#var a: i32 = 1L;"));
        Bench.refused(4, inside("#var a: i32 = 1;"));
        Bench.refused(2, inside("return #x;"));
        Bench.refused(2, inside("if #x { break; }"));
        Bench.refused(6, inside("if 1 { #break; } else { x; }"));
    }

    private static void moduleBeforeStays() {
        WaferForge forge = Bench.compiled("global k: i32 = 4; fn f(): i32 { k = k + 1; return k; }");
        Bench.due("first call", forge.call(0), 5);
        forge.argument(9);
        String before = Bench.emitted(forge);
        Bench.tape(forge, "global k: i32 = 9; fn f() { x; }");
        Bench.throwing("refused", UnsupportedOperationException.class, forge::compile);
        Bench.due("reason", forge.count(2), 2);
        Bench.due("place", forge.count(3), 28);
        Bench.due("arguments", forge.count(8), 1);
        Bench.due("bytes", Bench.emitted(forge), before);
        Bench.due("global", forge.global(0), 5);
        Bench.throwing("wrong number", IllegalArgumentException.class, () -> forge.call(0));
        Bench.due("call after", forge.call(0), 6);
        Bench.due("reason after", forge.count(2), 0);
        Bench.due("place is left", forge.count(3), 28);
    }
}
