import java.math.BigInteger;
import java.util.ArrayList;
import java.util.Arrays;
import java.util.HashMap;
import java.util.HashSet;
import java.util.List;
import java.util.Map;
import java.util.Set;
import java.util.regex.Matcher;
import java.util.regex.Pattern;

/**
 * The document's grammar as rules, and a reader after Earley, which has nothing in common with the program's own:
 * it tells of each sign whether it can stand behind those before it. What is too many is not its matter.
 */
final class Grammar {
    static final List<String> WORDS = List.of("fn", "global", "var", "if", "else", "while", "break", "continue", "return",
            "i32", "i64", "memory", "load8", "load32", "load64", "store8", "store32", "store64", "size", "grow", "trap");
    static final List<String> MARKS = List.of(">>>", "<<", ">>", "<=", ">=", "==", "!=", "&&", "||", "(", ")", "{", "}", ":",
            ";", ",", "=", "!", "~", "|", "&", "<", ">", "+", "-", "*", "/", "%", "^");
    private static final String RULES = """
            PROGRAM: FIRST FUNCTION REST END
            FIRST: ; FIRST: FIRST GLOBAL; REST: ; REST: REST GLOBAL; REST: REST FUNCTION
            GLOBAL: global NAME colon i32 = SIGN INT semicolon; GLOBAL: global NAME colon i64 = SIGN LONG semicolon
            SIGN: ; SIGN: -
            FUNCTION: fn NAME ( PARAMETERS ) RESULT BLOCK
            PARAMETERS: ; PARAMETERS: SOME; SOME: PARAMETER; SOME: SOME , PARAMETER; PARAMETER: NAME colon TYPE
            RESULT: ; RESULT: colon TYPE; TYPE: i32; TYPE: i64
            BLOCK: { ALL }; ALL: ; ALL: ALL S
            S: var NAME colon TYPE = X semicolon; S: NAME = X semicolon; S: IF; S: while X BLOCK; S: break semicolon
            S: continue semicolon; S: return semicolon; S: return X semicolon; S: X semicolon
            IF: if X BLOCK; IF: if X BLOCK else BLOCK; IF: if X BLOCK else IF
            X: A; X: X || A; A: C; A: A && C
            C: B; C: B == B; C: B != B; C: B < B; C: B > B; C: B <= B; C: B >= B
            B: H; B: B & H; B: B | H; B: B ^ H; H: P; H: H << P; H: H >> P; H: H >>> P
            P: M; P: P + M; P: P - M; M: U; M: M * U; M: M / U; M: M % U
            U: - U; U: ! U; U: ~ U; U: INT; U: LONG; U: NAME; U: CALLED ( GIVEN ); U: TYPE ( X ); U: ( X )
            CALLED: NAME; CALLED: load8; CALLED: load32; CALLED: load64; CALLED: store8; CALLED: store32; CALLED: store64
            CALLED: size; CALLED: grow; CALLED: trap
            GIVEN: ; GIVEN: LIST; LIST: X; LIST: LIST , X
            """;
    private static final Pattern BETWEEN = Pattern.compile("(?:[\\t\\n\\r ]|//[^\\n]*)*");
    private static final Pattern SIGN = Pattern.compile("[A-Za-z_][A-Za-z_0-9]*|[0-9]+L?|>>>|<<|>>|<=|>=|==|!=|&&|\\|\\|"
            + "|[(){}:;,=!~|&<>+\\-*/%^]");

    private final List<String[]> rules = new ArrayList<>();
    private final Map<String, List<Integer>> byLeft = new HashMap<>();
    private final Set<String> empty = new HashSet<>();
    /** For each sign read, and before the first: what may be under way there. */
    private final List<List<long[]>> chart = new ArrayList<>();

    Grammar() {
        for (String rule : RULES.replace("\n", ";").split(";")) {
            if (!rule.isBlank()) {
                String[] parts = rule.trim().replace(":", "").replace("semicolon", ";").replace("colon", ":").split("\\s+");
                byLeft.computeIfAbsent(parts[0], k -> new ArrayList<>()).add(rules.size());
                rules.add(parts);
                if (parts.length == 1) {
                    empty.add(parts[0]);
                }
            }
        }
        List<long[]> first = new ArrayList<>();
        Set<Long> known = new HashSet<>();
        put(first, known, byLeft.get("PROGRAM").get(0), 0, 0);
        chart.add(first);
        close(first, known, 0);
    }

    private static void put(List<long[]> row, Set<Long> known, int rule, int dot, int from) {
        if (known.add((long) rule << 40 | (long) dot << 32 | from)) {
            row.add(new long[] {rule, dot, from});
        }
    }

    private String behindDot(long[] item) {
        String[] rule = rules.get((int) item[0]);
        return item[1] + 1 < rule.length ? rule[(int) item[1] + 1] : null;
    }

    private void close(List<long[]> row, Set<Long> known, int at) {
        for (int i = 0; i < row.size(); i++) {
            long[] item = row.get(i);
            String next = behindDot(item);
            if (next == null) {
                String done = rules.get((int) item[0])[0];
                List<long[]> origin = chart.get((int) item[2]);
                for (int k = 0; k < origin.size(); k++) {
                    long[] waiting = origin.get(k);
                    if (done.equals(behindDot(waiting))) {
                        put(row, known, (int) waiting[0], (int) waiting[1] + 1, (int) waiting[2]);
                    }
                }
            } else if (byLeft.containsKey(next)) {
                for (int rule : byLeft.get(next)) {
                    put(row, known, rule, 0, at);
                }
                if (empty.contains(next)) {
                    put(row, known, (int) item[0], (int) item[1] + 1, (int) item[2]);
                }
            }
        }
    }

    int length() {
        return chart.size() - 1;
    }

    void backTo(int length) {
        chart.subList(length + 1, chart.size()).clear();
    }

    /** Whether a sign of this kind can stand next; if so it is read. */
    boolean takes(String kind) {
        List<long[]> row = new ArrayList<>();
        Set<Long> known = new HashSet<>();
        for (long[] item : chart.get(chart.size() - 1)) {
            if (kind.equals(behindDot(item))) {
                put(row, known, (int) item[0], (int) item[1] + 1, (int) item[2]);
            }
        }
        if (row.isEmpty()) {
            return false;
        }
        chart.add(row);
        close(row, known, chart.size() - 1);
        return true;
    }

    static String kindOf(String sign) {
        if (sign.isEmpty()) {
            return "END";
        }
        char first = sign.charAt(0);
        if (Character.isDigit(first)) {
            boolean isLong = sign.endsWith("L");
            BigInteger value = new BigInteger(isLong ? sign.substring(0, sign.length() - 1) : sign);
            return value.bitLength() > (isLong ? 63 : 31) ? "WRONG" : isLong ? "LONG" : "INT";
        }
        if (MARKS.contains(sign) || WORDS.contains(sign)) {
            return sign;
        }
        return first < 128 && (Character.isLetter(first) || first == '_') && sign.length() <= 20 ? "NAME" : "WRONG";
    }

    /** The place of the first sign that can't stand there, -1 if all can. */
    static int firstWrong(String text) {
        Grammar grammar = new Grammar();
        int at = 0;
        while (true) {
            Matcher between = BETWEEN.matcher(text).region(at, text.length());
            at = between.lookingAt() ? between.end() : at;
            Matcher sign = SIGN.matcher(text).region(at, text.length());
            String found = at == text.length() ? "" : sign.lookingAt() ? sign.group() : "@";
            if (!grammar.takes(kindOf(found))) {
                return at;
            }
            if (found.isEmpty()) {
                return -1;
            }
            at += found.length();
        }
    }

    /** One sign of each kind, but names and integers, which a test has of its own. */
    static List<String> allSigns() {
        List<String> signs = new ArrayList<>(WORDS);
        signs.addAll(MARKS);
        signs.addAll(Arrays.asList("name", "7", "8L", "@", "2147483648", "9223372036854775808L", "n2345678901234567890x"));
        return signs;
    }
}
