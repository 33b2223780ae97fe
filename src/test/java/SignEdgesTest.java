/** Terms, LANGUAGE: blanks and comments, NAMES, INTEGERS, the longest signs, and words, at their edges. */
public final class SignEdgesTest {
    private static final String NAME_20 = "abcdefghijklmnopqrst";
    private static final String NAME_21 = NAME_20 + "u";

    public static void main(String[] args) {
        everyByteBetween();
        everyByteInFront();
        everyByteInside();
        everyByteInComments();
        commentsBetween();
        lengthsOfNames();
        greatestIntegers();
        zerosInFront();
        theLongest();
        wordsAndTheirLike();
        Bench.finish();
    }

    private static boolean isBlank(int b) {
        return b == 9 || b == 10 || b == 13 || b == 32;
    }

    private static boolean isLetter(int b) {
        return "abcdefghijklmnopqrstuvwxyzABCDEFGHIJKLMNOPQRSTUVWXYZ_".indexOf(b) >= 0;
    }

    private static boolean isDigit(int b) {
        return "0123456789".indexOf(b) >= 0;
    }

    /** "blanks (9, 10, 13, 32) ... between". */
    private static void everyByteBetween() {
        for (int b = 0; b < 256; b++) {
            String text = "fn" + (char) b + "f(){}";
            if (isBlank(b)) {
                Bench.accepted(text);
            } else {
                Bench.refused(text, 1, isLetter(b) || isDigit(b) ? 0 : 2);
            }
            if (!isBlank(b)) {
                Bench.refused("fn f(){} " + (char) b, 1, 9);
            }
        }
        Bench.accepted("\t\n\r fn\t\n\r f\t\n\r (\t\n\r )\t\n\r {\t\n\r }\t\n\r ");
    }

    /** "NAMES: a letter or _". */
    private static void everyByteInFront() {
        for (int b = 0; b < 256; b++) {
            String text = "fn " + (char) b + "x(){}";
            if (isBlank(b) || isLetter(b)) {
                Bench.accepted(text);
            } else {
                Bench.refused(text, 1, 3);
            }
        }
    }

    /** "then letters, digits, _". */
    private static void everyByteInside() {
        for (int b = 0; b < 256; b++) {
            String text = "fn a" + (char) b + "z(){}";
            if (isLetter(b) || isDigit(b)) {
                Bench.accepted(text);
                Bench.accepted("fn a" + (char) b + "(){}");
            } else {
                Bench.refused(text, 1, isBlank(b) ? 5 : b == '(' ? 6 : 4);
            }
        }
    }

    /** "// up to 10 (or the end)". */
    private static void everyByteInComments() {
        for (int b = 0; b < 256; b++) {
            String text = "fn f(){}//" + (char) b + "@";
            if (b == 10) {
                Bench.refused(text, 1, 11);
            } else {
                Bench.accepted(text);
                Bench.accepted("fn f()//" + (char) b + "\n{}");
            }
        }
    }

    private static void commentsBetween() {
        Bench.accepted("//\nfn//\nf//\n(//\n)//\n{//\n}//");
        Bench.accepted("fn/////\nf(){}");
        Bench.accepted("fn f(){}// //\n// //");
        Bench.refused("fn f(){}/", 1, 8);
        Bench.refused("fn f(){}/ /", 1, 8);
        Bench.refused("fn f(){ 1 / /\n 2; }", 1, 12);
        Bench.accepted("fn f(){ 1 ///\n / 2; }");
        Bench.refused("fn f(){ 1 //; }", 1, 15);
        Bench.refused("fn f(){ //\r}", 1, 12);
        Bench.refused("fn//\nf//\n(", 1, 10);
    }

    /** "at most 20", wherever a NAME stands; "too long: its first byte". */
    private static void lengthsOfNames() {
        String[] programs = {"global #: i32 = 1; fn f(){}", "fn #(){}", "fn f(#: i32){}", "fn f(){ var #: i32 = 1; }",
            "fn f(){ 1 + #; }", "fn f(){ # = 1; }", "fn f(){ #(); }", "fn f(){ f(1, #); }", "fn f(){ return #; }",
            "fn f(){ if # { } }", "fn f(){ while # { } }", "fn f(a: #){}", "#"};
        for (String program : programs) {
            int place = program.indexOf('#');
            Bench.refused(program.replace("#", NAME_21), 1, place);
            Bench.refused(program.replace("#", "_".repeat(1000)), 1, place);
        }
        Bench.accepted("global " + NAME_20 + ": i32 = 1; fn " + NAME_20 + "(" + NAME_20 + ": i32){ " + NAME_20 + " = "
                + NAME_20 + "; " + NAME_20 + "(" + NAME_20 + "); }");
        Bench.accepted("fn f(){ var " + NAME_20 + ": i32 = 1; } // " + NAME_21);
        Bench.accepted("fn " + NAME_20 + "(){} fn " + NAME_20.replace('t', 'x') + "(){} fn " + NAME_20.substring(1) + "(){}");
        Bench.refused(4, "fn " + NAME_20 + "(){} fn #" + NAME_20 + "(){}");
        WaferForge forge = Bench.compiled("fn " + NAME_20 + "(): i32 { return 5; }");
        Bench.tape(forge, NAME_20);
        Bench.due("found by all of its 20", forge.find(), 0);
    }

    /** "an i32 of at most 2^31 - 1, or, with an L right behind, an i64 of at most 2^63 - 1"; "too great". */
    private static void greatestIntegers() {
        String[] programs = {"fn f(): TYPE { return #; }", "global g: TYPE = #; fn f(): TYPE { return g; }",
            "global g: TYPE = -#; fn f(): TYPE { return -g; }", "fn f(): TYPE { return - -#; }",
            "fn f(): TYPE { var a: TYPE = #; return a; }"};
        String[] tooGreatInts = {"2147483648", "2147483649", "4294967295", "4294967296", "4294967297", "9999999999",
            "9223372036854775807", "18446744073709551616", "18446744073709551617"};
        String[] tooGreatLongs = {"9223372036854775808L", "9223372036854775809L", "9223372036854775810L",
            "18446744073709551615L", "18446744073709551616L", "18446744073709551617L", "92233720368547758070L",
            "340282366920938463463374607431768211456L"};
        for (String program : programs) {
            for (String value : new String[] {"0", "1", "2147483646", "2147483647"}) {
                WaferForge forge = Bench.compiled(program.replace("TYPE", "i32").replace("#", value));
                Bench.due(program + " of " + value, forge.call(0), Long.parseLong(value));
            }
            for (String value : new String[] {"0", "2147483648", "4294967296", "9223372036854775806", "9223372036854775807"}) {
                WaferForge forge = Bench.compiled(program.replace("TYPE", "i64").replace("#", value + "L"));
                Bench.due(program + " of " + value, forge.call(0), Long.parseLong(value));
            }
            for (String value : tooGreatInts) {
                String text = program.replace("TYPE", "i32");
                Bench.refused(text.replace("#", value), 1, text.indexOf('#'));
            }
            for (String value : tooGreatLongs) {
                String text = program.replace("TYPE", "i64");
                Bench.refused(text.replace("#", value), 1, text.indexOf('#'));
            }
        }
        Bench.refused(1, "fn f(){ 1 #L; }");
        Bench.refused(1, "fn f(){ 1#l; }");
        Bench.refused(1, "fn f(){ 1L#L; }");
        Bench.refused(1, "fn f(){ 1//\n#L; }");
        Bench.refused(1, "fn f(){ 0#x1; }");
        Bench.refused(1, "fn f(){ 1#_0; }");
        Bench.refused(1, "fn f(){ 1#i32; }");
        // an L right behind belongs to the INTEGER, and what follows is a sign of its own
        Bench.refused(1, "fn f(){ 1L#1; }");
        Bench.accepted("fn f(){ 1L+1L; 1-1; }");
    }

    private static void zerosInFront() {
        WaferForge forge = Bench.compiled("fn f(): i32 { return " + "0".repeat(500) + "2147483647; }"
                + "fn g(): i64 { return " + "0".repeat(500) + "9223372036854775807L; } fn h(): i32 { return " + "0".repeat(300)
                + "; }");
        Bench.due("i32", forge.call(0), Integer.MAX_VALUE);
        Bench.due("i64", forge.call(1), Long.MAX_VALUE);
        Bench.due("0", forge.call(2), 0);
        Bench.refused(1, "fn f(){ #" + "0".repeat(500) + "2147483648; }");
        Bench.refused(1, "fn f(){ #" + "0".repeat(500) + "9223372036854775808L; }");
        Bench.refused(1, "fn f(){ #" + "9".repeat(1500) + "; }");
        Bench.refused(1, "fn f(){ #" + "9".repeat(1500) + "L; }");
    }

    /** "the signs below, the longest that there is": all rows of up to three marks between two operands. */
    private static void theLongest() {
        String marks = "(){}:;,=!~|&<>+-*/%^";
        WaferForge forge = null;
        int used = 0;
        for (int code = 1; code < 21 * 21 * 21; code++) {
            StringBuilder row = new StringBuilder();
            for (int rest = code; rest > 0; rest /= 21) {
                row.append(rest % 21 == 0 ? ' ' : marks.charAt(rest % 21 - 1));
            }
            String text = "fn f(a:i32){a" + row + "1;}";
            if (used++ % 40 == 0) {
                forge = new WaferForge();
            }
            Bench.tape(forge, text);
            try {
                forge.compile();
            } catch (UnsupportedOperationException e) {
                // the reason tells it
            }
            int wrong = Grammar.firstWrong(text);
            Bench.due("reason 1 of " + text, forge.count(2) == 1 ? 1 : 0, wrong >= 0 ? 1 : 0);
            if (wrong >= 0) {
                Bench.due("place of " + text, forge.count(3), wrong);
            }
        }
    }

    /** "Words that are no NAMES". */
    private static void wordsAndTheirLike() {
        String[] places = {"fn #(){}", "global #: i32 = 1; fn f(){}", "fn f(#: i32){}", "fn f(){ var #: i32 = 1; }"};
        for (String place : places) {
            for (String word : Grammar.WORDS) {
                Bench.refused(place.replace("#", word), 1, place.indexOf('#'));
                for (String like : new String[] {word + "_", "_" + word, word + "0", word.toUpperCase(),
                    word.substring(0, word.length() - 1) + "_"}) {
                    Bench.accepted(place.replace("#", like));
                }
            }
        }
        for (String word : Grammar.WORDS) {
            boolean begins = "var if while break continue return".contains(word);
            boolean called = word.startsWith("load") || word.startsWith("store") || "size grow trap".contains(word);
            int behind = 9 + word.length();
            Bench.refused("fn f(){ " + word + " = 1; }", 1, begins || called || word.startsWith("i") ? behind : 8);
        }
    }
}
