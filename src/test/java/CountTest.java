/** Promise 13: count. */
public final class CountTest {
    public static void main(String[] args) {
        ranges();
        reasonAndPlace();
        ofTheModule();
        steps();
        Bench.finish();
    }

    private static void ranges() {
        WaferForge forge = new WaferForge();
        for (int what : new int[] {-1, 9, Integer.MIN_VALUE, Integer.MAX_VALUE}) {
            Bench.throwing("count " + what, IllegalArgumentException.class, () -> forge.count(what));
        }
        forge.feed(1, 2, 3, 4, 5);
        forge.argument(1);
        Bench.due("tape", forge.count(0), 20);
        Bench.due("arguments", forge.count(8), 1);
    }

    private static void reasonAndPlace() {
        WaferForge forge = new WaferForge();
        Bench.tape(forge, "fn f() { break; }");
        Bench.throwing("compile", UnsupportedOperationException.class, forge::compile);
        Bench.due("reason", forge.count(2), 6);
        Bench.due("place", forge.count(3), 9);
        Bench.tape(forge, Bench.unhex(Bench.HEAD + "01"));
        Bench.throwing("module", UnsupportedOperationException.class, forge::module);
        Bench.due("reason of a module", forge.count(2), 7);
        Bench.due("place of a module", forge.count(3), -1);
        Bench.tape(forge, "fn f() { x; }");
        Bench.throwing("compile", UnsupportedOperationException.class, forge::compile);
        Bench.due("place", forge.count(3), 9);
        Bench.tape(forge, Bench.unhex(Bench.one("00 00", "00", "00 0B")));
        forge.module();
        Bench.due("reason of a good module", forge.count(2), 0);
        Bench.due("place of a good module", forge.count(3), -1);
        Bench.tape(forge, "fn f() { x; }");
        Bench.throwing("compile", UnsupportedOperationException.class, forge::compile);
        Bench.due("reason of a call", Bench.ending(forge, 0), 9);
        Bench.due("place after a call", forge.count(3), 9);
        forge.argument(1);
        Bench.throwing("wrong number", IllegalArgumentException.class, () -> forge.call(0));
        Bench.due("reason stays", forge.count(2), 9);
        Bench.throwing("no such function", IllegalArgumentException.class, () -> forge.call(1));
        Bench.due("reason stays", forge.count(2), 9);
        Bench.tape(forge, "fn f() { }");
        forge.compile();
        Bench.due("reason of a good program", forge.count(2), 0);
        Bench.due("place of a good program", forge.count(3), -1);
        forge.find();
        forge.emit();
        Bench.due("reason after others", forge.count(2), 0);
    }

    private static void ofTheModule() {
        WaferForge forge = Bench.compiled("global a: i32 = 1; global b: i32 = 1; global c: i32 = 1; fn f() { grow(1); } fn g() { }");
        Bench.due("functions", forge.count(4), 2);
        Bench.due("globals", forge.count(5), 3);
        Bench.due("pages", forge.count(6), 1);
        forge.call(0);
        Bench.due("pages after grow", forge.count(6), 2);
        Bench.tape(forge, Bench.unhex(Bench.HEAD));
        forge.module();
        Bench.due("functions of none", forge.count(4), 0);
        Bench.due("globals of none", forge.count(5), 0);
        Bench.due("pages of none", forge.count(6), 0);
    }

    private static void steps() {
        WaferForge forge = Bench.compiled("fn n() { } fn s(a: i32): i32 { if a { return 1; } else { a = 5; } n(); return a; }"
                + "fn w(a: i32) { while a { a = a - 1; } } fn t() { trap(); } fn o(a: i32): i32 { return a || 1; }");
        forge.call(0);
        Bench.due("an end is no step", forge.count(7), 0);
        Bench.called(forge, 1, 1);
        Bench.due("get if const return", forge.count(7), 4);
        Bench.called(forge, 1, 0);
        Bench.due("get if const set call get return", forge.count(7), 7);
        Bench.called(forge, 2, 0);
        Bench.due("block loop get eqz br_if", forge.count(7), 5);
        Bench.called(forge, 2, 3);
        Bench.due("three rounds more of 8", forge.count(7), 5 + 3 * 8);
        Bench.due("trap", Bench.ending(forge, 3), 9);
        Bench.due("a step that ends it", forge.count(7), 1);
        Bench.throwing("wrong number", IllegalArgumentException.class, () -> forge.call(1));
        Bench.due("steps stay", forge.count(7), 1);
        Bench.throwing("no such function", IllegalArgumentException.class, () -> forge.call(9));
        Bench.due("steps stay", forge.count(7), 1);
        Bench.called(forge, 4, 1);
        Bench.due("get if const return", forge.count(7), 4);
        Bench.called(forge, 4, 0);
        Bench.due("get if const const ne return", forge.count(7), 6);
        Bench.tape(forge, "fn f() { }");
        forge.compile();
        Bench.due("steps after compile", forge.count(7), 6);
    }
}
