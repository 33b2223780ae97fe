/** Promise 4: compile; the signs, the form of a PROGRAM, and what is too many (reasons 1 and 5). */
public final class CompileSignsTest {
    private static final String ONE_MORE = "xxxxxxxxxxxxxxxxxxxxx";

    public static void main(String[] args) {
        blanksAndComments();
        names();
        integers();
        marks();
        globals();
        functions();
        statements();
        operands();
        tooManyOfAKind();
        tooManyOpen();
        tooManyTwoSides();
        Bench.finish();
    }

    private static String inside(String statements) {
        return "fn f(a: i32) { " + statements + " }";
    }

    private static void blanksAndComments() {
        Bench.refused("", 1, 0);
        Bench.refused(" \t\r\n", 1, 4);
        Bench.refused("// only this", 1, 12);
        Bench.refused("// only this\n", 1, 13);
        Bench.accepted("fn\tf\r(\n)//{\n{//}\n}//");
        Bench.accepted("// a\n// b\nfn f(){}");
        Bench.accepted("fn f(){}// \u0001\u00FF @ fn");
        Bench.refused(1, "fn f(){ 4 / #/ 2; }");
        Bench.refused("fn f(){ 4 // 2; }", 1, 17);
        Bench.refused(1, "fn#\u000B f(){}");
        Bench.refused(1, "fn f(){}#\u0000");
        Bench.refused(1, "fn f(){}#\u00A0");
    }

    private static void names() {
        Bench.accepted("fn _(){} fn _1a_Z(){} fn xxxxxxxxxxxxxxxxxxxx(){} fn fnn(){} fn I32(){}");
        Bench.refused(1, "fn #" + ONE_MORE + "(){}");
        Bench.accepted("fn a(){} fn z(){} fn A(){} fn Z(){} fn a0(){} fn a9(){} fn aA_Zz(){}");
        for (char beside : new char[] {'@', '[', '`', '\u007F'}) {
            Bench.refused(1, "fn #" + beside + "(){}");
            Bench.refused(1, "fn a#" + beside + "(){}");
        }
        Bench.refused(1, "fn a#.(){}");
        Bench.refused(1, "fn a#:(){}");
        Bench.refused(1, "fn #1f(){}");
        Bench.refused(1, inside("1 #f;"));
        Bench.refused(1, "fn #\u00E4(){}");
        String[] words = {"fn", "global", "var", "if", "else", "while", "break", "continue", "return", "i32",
            "i64", "memory", "load8", "load32", "load64", "store8", "store32", "store64", "size", "grow", "trap"};
        for (String word : words) {
            Bench.refused(1, "fn #" + word + "(){}");
            Bench.refused(1, "global #" + word + ": i32 = 1; fn f(){}");
            Bench.refused(1, "fn f(#" + word + ": i32){}");
            Bench.refused(1, inside("var #" + word + ": i32 = 1;"));
        }
    }

    private static void integers() {
        WaferForge forge = Bench.compiled("fn f(): i32 { return 2147483647; }"
                + "fn g(): i64 { return 9223372036854775807L; } fn h(): i32 { return 00000000000000000000012; }");
        Bench.due("greatest i32", forge.call(0), Integer.MAX_VALUE);
        Bench.due("greatest i64", forge.call(1), Long.MAX_VALUE);
        Bench.due("zeros in front", forge.call(2), 12);
        Bench.refused(1, inside("#2147483648;"));
        Bench.refused(1, inside("-#2147483648;"));
        Bench.refused(1, inside("#9223372036854775808L;"));
        Bench.refused(1, inside("#99999999999999999999999999L;"));
        Bench.refused(1, inside("#18446744073709551617;"));
        Bench.refused(1, inside("1 #L;"));
        Bench.refused(1, inside("1#l;"));
        Bench.refused(1, inside("1L#x;"));
        Bench.refused(1, inside("1#.5;"));
    }

    private static void marks() {
        Bench.accepted(inside("a<<1;a>>1;a>>>1;a<=1;a>=1;a<1;a>1;a==1;a!=1;a&&1;a||1;a&1;a|1;a^1;a=1;!a;~a;-a;a%1;"));
        Bench.refused(1, inside("a>>>#>1;"));
        Bench.refused(1, inside("a==#=1;"));
        Bench.refused(1, inside("a<#>1;"));
        Bench.refused(1, inside("a&&#&1;"));
        Bench.accepted(inside("a&-1;a- -1;a--1;a!=!1;"));
        for (String other : new String[] {"@", "$", "'", "\"", ".", "?", "[", "]", "\\", "`", "\u0080"}) {
            Bench.refused(1, inside("a #" + other + " 1;"));
        }
    }

    private static void globals() {
        Bench.accepted("global a: i32 = -2147483647; global b: i64 = - 9223372036854775807L; fn f(){} global c: i32 = 0;");
        Bench.refused("global a: i32 = 1;", 1, 18);
        Bench.refused(1, "global a: i32 = #1L; fn f(){}");
        Bench.refused(1, "global a: i64 = #1; fn f(){}");
        Bench.refused(1, "global a: i64 = -#1; fn f(){}");
        Bench.refused(1, "global a: i32 = #; fn f(){}");
        Bench.refused(1, "global a: i32 = -#-1; fn f(){}");
        Bench.refused(1, "global a: i32 = 1 #+ 1; fn f(){}");
        Bench.refused(1, "global a: #f = 1; fn f(){}");
        Bench.refused(1, "global a #= 1; fn f(){}");
        Bench.refused(1, "#var a: i32 = 1; fn f(){}");
        Bench.refused(1, "global a: i32 = 1 #fn f(){}");
    }

    private static void functions() {
        Bench.accepted("fn f(a: i32, b: i64): i64 { }");
        Bench.refused("fn", 1, 2);
        Bench.refused("fn f", 1, 4);
        Bench.refused("fn f(", 1, 5);
        Bench.refused("fn f()", 1, 6);
        Bench.refused("fn f() {", 1, 8);
        Bench.refused(1, "fn f() { }#}");
        Bench.refused(1, "fn f() { } #;");
        Bench.refused(1, "fn f(a: i32,#) { }");
        Bench.refused(1, "fn f(#, a: i32) { }");
        Bench.refused(1, "fn f(a#) { }");
        Bench.refused(1, "fn f(a: #i16) { }");
        Bench.refused(1, "fn f(a: i32 #b: i32) { }");
        Bench.refused(1, "fn f(): #{ }");
        Bench.refused(1, "fn f() #i32 { }");
        Bench.refused(1, "#f() { }");
    }

    private static void statements() {
        Bench.accepted(inside("if a { } else if a { } else { } while a { break; continue; } return; a = 1; a; (a); trap();"));
        Bench.refused(1, inside("#{ }"));
        Bench.refused(1, inside("#;"));
        Bench.refused(1, "fn f(a: i32) { a #}");
        Bench.refused(1, inside("a = #;"));
        Bench.refused(1, inside("a = 1 #= 2;"));
        Bench.refused(1, inside("(a) #= 1;"));
        Bench.refused(1, inside("1 #= a;"));
        Bench.refused(1, inside("var b: i32#;"));
        Bench.refused(1, inside("var b #= 1;"));
        Bench.refused(1, inside("if #{ }"));
        Bench.refused(1, inside("if a #a;"));
        Bench.refused(1, inside("if a { } else #a;"));
        Bench.refused(1, inside("#else { }"));
        Bench.refused(1, inside("if a { } else { } #else { }"));
        Bench.refused(1, inside("while a #;"));
        Bench.refused(1, inside("break #1;"));
        Bench.refused(1, inside("continue #}"));
        Bench.refused(1, "fn f(a: i32) { return #}");
        Bench.refused(1, inside("return a #a;"));
        Bench.refused(1, inside("#fn g() { }"));
        Bench.refused(1, inside("#global b: i32 = 1;"));
    }

    private static void operands() {
        Bench.accepted(inside("f(a); f((a)); i32(1L); i64(a); size(); load8(a) + load32(a); a + -!~a;"));
        Bench.refused(1, inside("a + #;"));
        Bench.refused(1, inside("#* a;"));
        Bench.refused(1, inside("(a#;"));
        Bench.refused(1, inside("a#);"));
        Bench.refused(1, inside("(#);"));
        Bench.refused(1, inside("f(a,#);"));
        Bench.refused(1, inside("f(#,a);"));
        Bench.refused(1, inside("f(a #a);"));
        Bench.refused(1, inside("i32(#);"));
        Bench.refused(1, inside("i32 #a;"));
        Bench.refused(1, inside("i32(a#, a);"));
        Bench.refused(1, inside("load8#;"));
        Bench.refused(1, inside("load8 #= 1;"));
        Bench.refused(1, inside("#memory;"));
        Bench.refused(1, inside("#memory();"));
        Bench.refused(1, inside("a < a #< a;"));
        Bench.refused(1, inside("a == a + 1 #!= a;"));
        Bench.refused(1, inside("a || a < a && a < a #>= a;"));
        Bench.accepted(inside("a < a || a < a; (a < a) < a; a < (a < a);"));
    }

    private static void tooManyOfAKind() {
        StringBuilder globals = new StringBuilder();
        StringBuilder functions = new StringBuilder();
        StringBuilder parameters = new StringBuilder("p0: i32");
        StringBuilder given = new StringBuilder("1");
        for (int i = 0; i < 20; i++) {
            globals.append("global g").append(i).append(": i32 = 1; ");
            functions.append("fn f").append(i).append("() { } ");
        }
        for (int i = 1; i < 8; i++) {
            parameters.append(", p").append(i).append(": i32");
            given.append(", 1");
        }
        Bench.accepted(globals + "fn f() { }");
        Bench.refused(5, globals + "global #g: i32 = 1; fn f() { }");
        Bench.refused(5, globals + "global #");
        Bench.refused(5, globals + "global #;");
        Bench.refused(1, globals + "global #@");
        Bench.accepted(functions + "global g: i32 = 1;");
        Bench.refused(5, functions + "fn #f() { }");
        Bench.refused(5, functions + "fn #(");
        Bench.refused(5, functions + "fn #");
        Bench.refused(1, functions + "fn #" + ONE_MORE);
        Bench.accepted("fn f(" + parameters + ") { f(" + given + "); }");
        Bench.refused(5, "fn f(" + parameters + ", #p8: i32) { }");
        Bench.refused(5, "fn f(" + parameters + ", #) { }");
        Bench.refused(1, "fn f(" + parameters + ", #\" ) { }");
        Bench.refused(5, "fn f() { f(" + given + ", #1); }");
        Bench.refused(5, "fn f() { f(" + given + ",#");
        Bench.refused(1, "fn f() { f(" + given + ", #2147483648); }");
    }

    private static void tooManyOpen() {
        String most = "(".repeat(38) + "1" + ")".repeat(38);
        Bench.accepted("fn f() { " + most + "; }");
        Bench.refused(5, "fn f() { " + "(".repeat(39) + "#1" + ")".repeat(39) + "; }");
        Bench.refused(5, "fn f() { " + "(".repeat(39) + "#)");
        Bench.refused(5, "fn f() { " + "(".repeat(39) + "#");
        Bench.refused(1, "fn f() { " + "(".repeat(39) + "#@");
        Bench.accepted("fn f() { " + "-".repeat(38) + "1; }");
        Bench.refused(5, "fn f() { " + "~".repeat(38) + "#!1; }");
        Bench.refused(1, "fn f() { " + "~".repeat(38) + "#@1; }");
        Bench.accepted("fn f() { " + "while 1 {".repeat(39) + "}".repeat(39) + " }");
        Bench.refused(5, "fn f() { " + "while 1 {".repeat(39) + "#1;");
        Bench.refused(5, "fn f() { " + "while 1 {".repeat(39) + "a = #1;");
        Bench.refused(5, "fn f() { " + "while 1 {".repeat(39) + "while #1 {");
        Bench.accepted("fn f() { " + "while 1 {".repeat(39) + "break; return; " + "}".repeat(40));
        Bench.accepted("fn f() { " + "if 1 {".repeat(19) + "1;" + "}".repeat(20));
        Bench.accepted("fn f() { " + "while 1 {" + "if 1 {".repeat(19) + "}".repeat(21));
        Bench.refused(5, "fn f() { " + "while 1 {" + "if 1 {".repeat(19) + "#if 1 { }");
        Bench.accepted("fn f() { " + "if 1 {} else ".repeat(37) + "if 1 {} }");
        Bench.refused(5, "fn f() { " + "if 1 {} else ".repeat(38) + "if #1 {} }");
        Bench.accepted("fn f() { " + (most + ";").repeat(10) + " }");
        Bench.accepted("fn f() { " + "i32(".repeat(38) + "1" + ")".repeat(38) + "; }");
        Bench.refused(5, "fn f() { " + "f(".repeat(39) + "#1");
    }

    private static void tooManyTwoSides() {
        Bench.accepted("fn f() { 1" + "+1".repeat(200) + "; } fn g() { 1" + "<<1".repeat(200) + "; }");
        Bench.refused(5, "fn f() { 1" + "*1".repeat(200) + "#-1; }");
        Bench.refused(5, "fn f() { 1" + "&&1".repeat(100) + "; 1" + "||1".repeat(100) + "; 1 #< 1; }");
        Bench.refused(5, "fn f() { 1" + "+1".repeat(200) + "; 1 #+ @; }");
        Bench.refused(1, "fn f() { 1" + "+1".repeat(199) + "<1 #< 1; }");
        Bench.accepted("fn f() { " + "1;".repeat(201) + "}");
    }
}
