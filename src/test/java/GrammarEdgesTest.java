import java.util.ArrayList;
import java.util.List;

/**
 * Promise 4, "1 the first byte of the first sign that can't stand there, the length at the end": small programs in which
 * each sign in turn is left out, doubled, followed by any other or is any other, or is the last. A reader of another
 * make (Grammar) tells which sign can't stand.
 */
public final class GrammarEdgesTest {
    private static final String[] PROGRAMS = {
        "global a : i32 = - 5 ; fn f ( ) { } global b : i64 = 6L ;",
        "fn f ( a : i32 , b : i64 ) : i64 { return b ; } fn g ( ) : i32 { return 1 ; }",
        "fn f ( a : i32 ) { var b : i64 = 1L ; a = 2 ; return ; }",
        "fn f ( a : i32 ) { if a { } else if 1 { a ; } else { } while a { break ; continue ; } }",
        "fn f ( a : i32 ) { f ( a ) ; f ( 1 + load8 ( a ) ) ; store64 ( 1 , i64 ( a ) ) ; ( a ) ; trap ( ) ; }",
        "fn f ( a : i32 ) { a || a && a == a & a << a + a * - ! ~ a ; }",
        "fn f ( a : i32 ) { a % a - a >>> a ^ a < a && ( a != a ) >= a || a ; }",
    };
    private static WaferForge forge;
    private static int used;
    private static int judged;

    public static void main(String[] args) {
        for (String program : PROGRAMS) {
            Bench.due("the grammar takes " + program, Grammar.firstWrong(program), -1);
            everyChange(List.of(program.split(" ")));
        }
        Bench.due("some thousands were judged", judged > 20000 ? 1 : 0, 1);
        Bench.finish();
    }

    private static void everyChange(List<String> signs) {
        Grammar grammar = new Grammar();
        for (int i = 0; i <= signs.size(); i++) {
            List<String> before = signs.subList(0, i);
            List<String> behind = signs.subList(i, signs.size());
            judge(grammar, before, List.of());
            for (String other : Grammar.allSigns()) {
                judge(grammar, before, joined(other, behind));
                if (!behind.isEmpty()) {
                    judge(grammar, before, joined(other, behind.subList(1, behind.size())));
                }
            }
            if (!behind.isEmpty()) {
                judge(grammar, before, behind.subList(1, behind.size()));
                grammar.takes(Grammar.kindOf(signs.get(i)));
            }
        }
    }

    private static List<String> joined(String first, List<String> rest) {
        List<String> all = new ArrayList<>(rest);
        all.add(0, first);
        return all;
    }

    /** The grammar has read the first signs already, and is left so. */
    private static void judge(Grammar grammar, List<String> before, List<String> behind) {
        String text = String.join(" ", before);
        int wrong = -1;
        for (String sign : behind) {
            text += text.isEmpty() ? "" : " ";
            if (wrong < 0 && !grammar.takes(Grammar.kindOf(sign))) {
                wrong = text.length();
            }
            text += sign;
        }
        if (wrong < 0 && !grammar.takes("END")) {
            wrong = text.length();
        }
        grammar.backTo(before.size());
        compare(text, wrong);
    }

    private static void compare(String text, int wrong) {
        if (used++ % 25 == 0) {
            forge = new WaferForge();
        }
        judged++;
        Bench.tape(forge, text);
        boolean taken = true;
        try {
            forge.compile();
        } catch (UnsupportedOperationException e) {
            taken = false;
        }
        if (wrong >= 0) {
            Bench.due("taken: " + text, taken ? 1 : 0, 0);
            Bench.due("reason of " + text, forge.count(2), 1);
            Bench.due("place of " + text, forge.count(3), wrong);
        } else {
            Bench.due("reason 1 of " + text, forge.count(2) == 1 || forge.count(2) == 5 ? 1 : 0, 0);
        }
    }
}
