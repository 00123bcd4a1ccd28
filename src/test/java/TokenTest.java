/** Terms of the document: characters to tokens, and the faults 1 and 2; '@' marks where a fault is due. */
public final class TokenTest {
    public static void main(String[] args) {
        spacesAndComments();
        names();
        words();
        numbers();
        signs();
        quotes();
        rows();
        marks();
        everyCharacter();
        numbersOfNames();
        Check.end();
    }

    // "A COMMENT is two - with nothing between and all up to the next 10, or the end."
    private static void spacesAndComments() {
        Check.good("unit a is end;");
        Check.good("unit\ta\nis  end ; \n\t");
        Check.good("--\nunit--x\na-- \"'@\200\377\nis end;--");
        Check.good("unit a is end;--- end of it");
        Check.good("-- unit\nunit a is end; -- unit");
        Check.good("unit a--\n--\n----\nis end;");
        Check.fault(1, "unit@\ra is end;");
        Check.fault(1, "unit@\fa is end;");
        Check.fault(1, "unit @\0a is end;");
        Check.fault(3, "unit a is end@");
        Check.fault(3, "unit a is end -- ;@");
        Check.fault(3, "unit a @- - is end;");
        Check.good("unit a is end;--");
        Check.good("unit a is end;--\n");
        Check.good("unit a is end;---");
        Check.good("unit a is end;--\n\n--\n--");
        Check.good("unit--\na--\nis--\nend--\n;--\n--");
        Check.fault(3, "unit a is end;@-");
        Check.fault(3, "unit a is end;@-\n-");
        Check.fault(3, "unit a is end;@-\t-");
        Check.fault(3, "unit a is end;--\n@-");
        Check.fault(3, "--@");
        Check.fault(3, "--\n@");
        Check.fault(3, "-- unit a is end;@");
        Check.fault(3, "unit a is end--;\n@");
        Check.fault(1, "-- _\n@_");
        Check.expression("a--'\n-b", "21:13(1:25 1:26)");
        Check.expression("a--b", "1:25");
        Check.expression("1--2\n+3", "21:12(2:1 2:3)");
        Check.expression("1-2", "21:13(2:1 2:2)");
        Check.expression("1- -- x\n2", "21:13(2:1 2:2)");
    }

    // "a letter (A-Z, a-z; both sizes are the same, the small one is kept), then letters, digits, and
    // single _ with a letter or digit behind each"
    private static void names() {
        SourceTree x = Check.of("UNIT Ab_C9_0 is end aB_c9_0; body a of AB is begin end A;");
        Check.same("names of both sizes", Check.told(x), "74(70:23(48 48) 73:24(1:25 48 48))");
        Check.same("count of names", x.names(), 26);
        Check.same("name 23", Check.nameOf(x, 23), "ab_c9_0");
        Check.same("name 24", Check.nameOf(x, 24), "a");
        Check.same("name 25", Check.nameOf(x, 25), "ab");
        Check.same("first names are used", Check.told(Check.of("unit Low is end LOW; unit integer is end;")),
            "74(70:22(48 48) 70(48 48))");
        Check.fault(1, "unit a@_ is end;");
        Check.fault(1, "unit a@__b is end;");
        Check.fault(1, "unit @_a is end;");
        Check.fault(1, "unit a_b@_;");
        Check.fault(3, "unit @9a is end;");
        Check.fault(1, "unit a@\351 is end;");
        Check.fault(3, "unit a is end unit a @b");
        String letters = "abcdefghijklmnopqrstuvwxyz";
        for (String name : new String[] {"a", "z", "a0", "z9", "a_0", "a_b_c", "a0_9z", letters, "a" + "_a".repeat(999)}) {
            String great = name.toUpperCase();
            SourceTree each = Check.of("unit " + great + " is end " + name + ";");
            Check.same(great, Check.read(each), "0 at -1");
            Check.same("kept of " + great, Check.nameOf(each, 23), name);
            Check.same("once", each.names(), 24);
        }
        Check.fault(1, "unit @_ is end;");
        Check.fault(1, "unit a_a@_ is end;");
        Check.fault(1, "unit a@_-- is end;");
        Check.fault(1, "unit a@_");
        Check.fault(1, "unit a0@_");
        Check.fault(1, "unit@_ a is end;");
        Check.fault(6, "unit a is end @a_a;");
        Check.fault(6, "unit a_a is end @a;");
        Check.fault(6, "unit aa is end @a_a;");
        Check.fault(6, "unit a1 is end @a2;");
        Check.fault(6, "unit a1 is end @b1;");
    }

    private static void words() {
        String[] words = ("ABS AFTER AND ASSERT BEGIN BODY CASE CONSTANT DOWNTO ELSE ELSIF END EXIT FOR GENERATE"
            + " GENERIC IF IN INERTIAL INOUT IS LOOP MAP MOD NAND NEXT NOR NOT NULL OF ON OPEN OR OTHERS OUT PORT"
            + " PROCESS RANGE REJECT REM REPORT SIGNAL SLL SRL SUBTYPE THEN TO TRANSPORT TYPE UNIT UNTIL VARIABLE"
            + " WAIT WHEN WHILE XNOR XOR").split(" ");
        for (String word : words) {
            Check.fault(3, "unit @" + word + " is end;");
            Check.fault(3, "unit @" + word.toLowerCase() + " is end;");
            Check.good("unit " + word + "1 is end " + word.toLowerCase() + "1;");
            Check.good("unit " + word + "_x is end " + word.toLowerCase() + "_X;");
            Check.good("unit q" + word + " is end;");
            if (word.length() > 2) {
                String shorter = word.substring(0, word.length() - 1);
                if (!java.util.Arrays.asList(words).contains(shorter)) {
                    Check.good("unit " + shorter + " is end;");
                }
            }
        }
    }

    // "NUMBERS: digits, 2147483647 at most." "2 a number is too great"
    private static void numbers() {
        String[] fits = {"0", "1", "9", "10", "999999999", "1000000000", "2147483639", "2147483646", "2147483647"};
        for (String number : fits) {
            String due = number.equals("0") ? "2" : "2:" + number;
            Check.expression(number, due);
            Check.expression("0" + number, due);
            Check.expression("0".repeat(100) + number, due);
        }
        String[] great = {"2147483648", "2147483649", "2147483650", "2147483657", "2200000000", "3000000000",
            "4294967295", "4294967296", "4294967297", "6442450943", "9999999999", "10000000000", "21474836470",
            "9223372036854775807", "9223372036854775808", "18446744073709551615", "18446744073709551616",
            "18446744073709551617", "36893488147419103232", "1" + "0".repeat(400)};
        for (String number : great) {
            for (String zeros : new String[] {"", "0", "0".repeat(100)}) {
                Check.fault(2, "unit u is generic(g:logic:=1+@" + zeros + number + "); end;");
                Check.fault(2, "unit @" + zeros + number + " is end;");
                Check.fault(2, "@" + zeros + number);
            }
        }
        Check.fault(2, "unit u is generic(g:logic:=@2147483648_");
        Check.fault(1, "unit u is generic(g:logic:=2147483647@_0); end;");
        Check.fault(3, "unit u is generic(g:logic:=2147483647 @0); end;");
        Check.fault(3, "unit u is generic(g:logic:=1@a); end;");
        Check.fault(3, "unit u is generic(g:logic:=1 @2); end;");
        Check.same("a number and a unit of time without a space",
            Check.told(Check.of("body b of a is begin x<=1 after 3ns; end;")),
            "74(73:23(1:24 48 48(61(1:25 0 48(31(2:1 32:13(2:3)))))))");
    }

    // "SIGNS: ' one of U X 0 1 Z W L H - (letters of either size) '"
    private static void signs() {
        String all = "UX01ZWLH-";
        for (int i = 0; i < all.length(); i++) {
            String due = i == 0 ? "3" : "3:" + i;
            Check.expression("'" + all.charAt(i) + "'", due);
            Check.expression("'" + Character.toLowerCase(all.charAt(i)) + "'", due);
            Check.expression("\"" + all.charAt(i) + "\"", "4(" + due + ")");
            Check.expression("\"" + Character.toLowerCase(all.charAt(i)) + "\"", "4(" + due + ")");
        }
        for (int c = 0; c < 256; c++) {
            if (c >= 128 || (all + all.toLowerCase()).indexOf(c) < 0) {
                // A ' alone is a mark, which can't stand here.
                Check.fault(3, "unit u is generic(g:logic:=@'" + (char) c + "'); end;");
                Check.fault(1, "unit u is generic(g:logic:=@\"" + (char) c + "\"); end;");
            }
        }
        Check.fault(3, "unit u is generic(g:logic:=@'2'); end;");
        Check.fault(3, "unit u is generic(g:logic:=@'1\"");
        Check.fault(3, "unit u is generic(g:logic:=@'11'); end;");
        Check.fault(1, "unit u is generic(g:logic:='1'@_); end;");
        Check.fault(3, "unit u is generic(g:logic:=@'a'); end;");
        Check.fault(3, "unit u is generic(g:logic:=@' 1'); end;");
        Check.fault(3, "unit u is generic(g:logic:=@'1 '); end;");
        Check.fault(3, "unit u is generic(g:logic:=@''); end;");
        Check.fault(3, "unit u is generic(g:logic:=@'1");
        Check.fault(3, "unit u is generic(g:logic:=@'");
        Check.fault(3, "unit u is generic(g:logic:=@'--'); end;");
        Check.expression("'-'", "3:8");
    }

    // "but a ' right behind a name that is no word (with nothing between) is a mark"
    private static void quotes() {
        Check.expression("a'u", "25:25(1:26)");
        Check.expression("a 'u", "25:25(1:26)");
        Check.expression("a ' u", "25:25(1:26)");
        Check.expression("a'\n--'1'\nevent", "25:25(1:15)");
        // Right behind a name that is no word a ' is a mark, and what follows is read by itself.
        Check.fault(3, "unit u is generic(g:logic:=a'@1'); end;");
        Check.fault(3, "unit u is generic(g:logic:=a'x@'); end;");
        Check.fault(3, "unit u is generic(g:logic:=a'x@'1'); end;");
        Check.fault(3, "unit u is generic(g:logic:=a'@-'); end;");
        Check.fault(3, "unit u is generic(g:logic:=a @'1'); end;");
        Check.fault(3, "unit u is generic(g:logic:=a--\n@'1'); end;");
        Check.fault(3, "unit u is generic(g:logic:=a1'@0'); end;");
        Check.fault(3, "unit u is generic(g:logic:=true'@0'); end;");
        Check.fault(3, "unit u is generic(g:logic:=a'@'0'); end;");
        Check.expression("a'--\nx", "25:25(1:26)");
        Check.expression("a'z", "25:25(1:26)");
        Check.expression("not'1'", "20(3:3)");
        Check.expression("abs'1'mod'0'", "21:17(20:3(3:3) 3:2)");
        Check.expression("a and'1'and'0'", "21(21(1:25 3:3) 3:2)");
        Check.expression("(a)&'1'", "21:14(1:25 3:3)");
        Check.fault(3, "unit u is generic(g:logic:=1@'1'); end;");
        Check.fault(3, "unit u is generic(g:logic:=(a)@'u); end;");
        Check.fault(3, "unit u is generic(g:logic:=a(1)@'u); end;");
        Check.fault(3, "unit u is generic(g:logic:=a'u@'u); end;");
        Check.fault(3, "unit u is generic(g:logic:=a'@range); end;");
        Check.fault(3, "unit u is generic(g:logic:=a'@(1)); end;");
        Check.fault(3, "unit u is generic(g:logic:=a'u@(1)); end;");
    }

    // "ROWS: \" one to 64 of these \""
    private static void rows() {
        Check.expression("\"01xZ\"", "4(3:2 3:3 3:1 3:4)");
        Check.expression("\"--\"", "4(3:8 3:8)");
        String signs = "01".repeat(32);
        StringBuilder due = new StringBuilder("4(3:2 3:3");
        for (int i = 1; i < 32; i++) {
            due.append(" 3:2 3:3");
        }
        Check.expression("\"" + signs + "\"", due.append(")").toString());
        for (int length = 1; length <= 64; length++) {
            Check.expression("\"" + "u".repeat(length) + "\"", "4(3" + " 3".repeat(length - 1) + ")");
        }
        for (int length = 65; length <= 130; length++) {
            Check.fault(1, "unit u is generic(g:logic:=@\"" + "u".repeat(length) + "\"); end;");
        }
        Check.fault(1, "unit u is generic(g:logic:=@\"" + signs + "0\"); end;");
        Check.fault(1, "unit u is generic(g:logic:=@\"0\n\"); end;");
        Check.fault(1, "unit u is generic(g:logic:=@\"0'); end;");
        Check.fault(1, "unit a is end;@\"");
        Check.fault(3, "unit a is end;@\"0\"");
        Check.fault(1, "unit u is generic(g:logic:=@\"\"); end;");
        Check.fault(1, "unit u is generic(g:logic:=@\"0 1\"); end;");
        Check.fault(1, "unit u is generic(g:logic:=@\"02\"); end;");
        Check.fault(1, "unit u is generic(g:logic:=@\"20\"); end;");
        Check.fault(1, "unit u is generic(g:logic:=@\"2\"); end;");
        Check.fault(1, "unit u is generic(g:logic:=@\"0");
        Check.fault(1, "unit u is generic(g:logic:=@\"" + signs);
        Check.fault(1, "unit u is generic(g:logic:=@\"");
        Check.fault(1, "unit u is generic(g:logic:=\"0\"@\"); end;");
        Check.fault(3, "unit u is generic(g:logic:=\"0\"@\"1\"); end;");
    }

    // "MARKS: ( ) , ; : := <= => = /= < > >= + - * / & ' |"
    private static void marks() {
        String[] marks = "( ) , ; : := <= => = /= < > >= + - * / & ' |".split(" ");
        for (String mark : marks) {
            Check.fault(3, "unit @" + mark + " is end;");
            Check.fault(3, "unit @" + mark + "a is end;");
            Check.fault(3, "@" + mark);
        }
        // Each as long as it can be: what is left behind it is a token of its own.
        Check.fault(3, "unit u is generic(g:logic@: =1); end;");
        Check.fault(3, "unit u is generic(g:logic@<=1); end;");
        Check.fault(3, "unit u is generic(g:logic:=a<=@=b); end;");
        Check.fault(3, "unit u is generic(g:logic:=a=@<b); end;");
        Check.fault(3, "unit u is generic(g:logic:=a=@=>b); end;");
        Check.fault(3, "unit u is generic(g:logic:=a/@/=b); end;");
        Check.fault(3, "unit u is generic(g:logic:=a<@>b); end;");
        Check.fault(3, "unit u is generic(g:logic:=a@:=b); end;");
        Check.fault(3, "unit u is generic(g:logic@::=b); end;");
        Check.expression("a<=b", "21:9(1:25 1:26)");
        Check.expression("a>=b", "21:11(1:25 1:26)");
        Check.expression("a/=b", "21:7(1:25 1:26)");
    }

    // "THE TEXT is characters, numbers 0 .. 255. SPACES are 32, 9 and 10."
    private static void everyCharacter() {
        for (int c = 0; c < 256; c++) {
            String s = String.valueOf((char) c);
            boolean space = c == 32 || c == 9 || c == 10;
            boolean inName = c >= 'a' && c <= 'z' || c >= 'A' && c <= 'Z' || c >= '0' && c <= '9';
            boolean mark = "(),;:=<>+-*/&'|".indexOf(c) >= 0;
            String fault = inName || mark ? "3" : "1";
            Check.same("alone, " + c, Check.read(Check.of("unit a is end;" + s)), space ? "0 at -1" : fault + " at 14");
            // Behind a name, letters and digits are part of it.
            Check.same("behind a name, " + c, Check.read(Check.of("unit a" + s + " is end;")),
                space || inName ? "0 at -1" : fault + " at 6");
            Check.same("between words, " + c, Check.read(Check.of("unit a is" + s + "end;")),
                space ? "0 at -1" : inName || c == '_' ? "3 at 7" : fault + " at 9");
            Check.good("unit a is end;-- " + s + "\n-- " + (c == 10 ? "" : s + s));
            Check.same("ends a comment, " + c, Check.read(Check.of("--" + s + "unit a is end;")),
                c == 10 ? "0 at -1" : "3 at 17");
        }
    }

    // "0 integer 1 natural .. 22 low; others from 23 on as they first come."
    private static void numbersOfNames() {
        String[] first = Check.FIRST_NAMES;
        for (int n = 0; n < first.length; n++) {
            SourceTree x = Check.of("unit " + first[n] + " is end " + first[n].toUpperCase() + ";");
            Check.same("read of " + first[n], Check.read(x), "0 at -1");
            Check.same("number of " + first[n], x.node(2, 1), n);
            Check.same("no name is new", x.names(), 23);
            Check.expression(first[n].toUpperCase(), n == 0 ? "1" : "1:" + n);
            Check.expression(first[n] + "x", "1:25");
        }
        SourceTree x = Check.of("body z of y is type x is(y,w,z,low,v); begin end;");
        Check.same("as they first come", Check.told(x), "74(73:23(1:24 48(53:25(1:24 1:26 1:23 1:22 1:27)) 48))");
        Check.same("names", x.names(), 28);
    }
}
