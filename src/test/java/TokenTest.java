/** Terms of the document: characters to tokens, and the faults 1 and 2; '@' marks where a fault is due. */
public final class TokenTest {
    public static void main(String[] args) {
        spacesAndComments();
        names();
        words();
        numbers();
        signs();
        quotes();
        rows();
        marks();
        everyCharacterAlone();
        Check.end();
    }

    private static void spacesAndComments() {
        good("unit a is end;");
        good("unit\ta\nis  end ; \n\t");
        good("--\nunit--x\na-- \"'@\200\377\nis end;--");
        good("unit a is end;--- end of it");
        good("-- unit\nunit a is end; -- unit");
        good("unit a--\n--\n----\nis end;");
        fault(1, "unit@\ra is end;");
        fault(1, "unit@\fa is end;");
        fault(1, "unit @\0a is end;");
        fault(3, "unit a is end@");
        fault(3, "unit a is end -- ;@");
        fault(3, "unit a @- - is end;");
        expression("1--2\n+3", "21:12(2:1 2:3)");
        expression("1-2", "21:13(2:1 2:2)");
        expression("1- -- x\n2", "21:13(2:1 2:2)");
    }

    private static void names() {
        SourceTree x = Check.of("UNIT Ab_C9_0 is end aB_c9_0; body a of AB is begin end A;");
        Check.same("names of both sizes", Check.told(x), "74(70:23(48 48) 73:24(1:25 48 48))");
        Check.same("count of names", x.names(), 26);
        Check.same("name 23", Check.nameOf(x, 23), "ab_c9_0");
        Check.same("name 24", Check.nameOf(x, 24), "a");
        Check.same("name 25", Check.nameOf(x, 25), "ab");
        Check.same("first names are used", Check.told(Check.of("unit Low is end LOW; unit integer is end;")),
            "74(70:22(48 48) 70(48 48))");
        fault(1, "unit a@_ is end;");
        fault(1, "unit a@__b is end;");
        fault(1, "unit @_a is end;");
        fault(1, "unit a_b@_;");
        fault(3, "unit @9a is end;");
        fault(1, "unit a@\351 is end;");
        fault(3, "unit a is end unit a @b");
        String[] first = ("integer natural positive boolean logic row true false rising falling number bits"
            + " ps ns us event active last length left right high low").split(" ");
        for (int n = 0; n < first.length; n++) {
            expression(first[n].toUpperCase(), n == 0 ? "1" : "1:" + n);
            expression(first[n] + "x", "1:25");
        }
    }

    private static void words() {
        String[] words = ("ABS AFTER AND ASSERT BEGIN BODY CASE CONSTANT DOWNTO ELSE ELSIF END EXIT FOR GENERATE"
            + " GENERIC IF IN INERTIAL INOUT IS LOOP MAP MOD NAND NEXT NOR NOT NULL OF ON OPEN OR OTHERS OUT PORT"
            + " PROCESS RANGE REJECT REM REPORT SIGNAL SLL SRL SUBTYPE THEN TO TRANSPORT TYPE UNIT UNTIL VARIABLE"
            + " WAIT WHEN WHILE XNOR XOR").split(" ");
        for (String word : words) {
            fault(3, "unit @" + word + " is end;");
            fault(3, "unit @" + word.toLowerCase() + " is end;");
            good("unit " + word + "1 is end " + word.toLowerCase() + "1;");
            good("unit " + word + "_x is end " + word.toLowerCase() + "_X;");
            good("unit q" + word + " is end;");
            if (word.length() > 2) {
                String shorter = word.substring(0, word.length() - 1);
                if (!java.util.Arrays.asList(words).contains(shorter)) {
                    good("unit " + shorter + " is end;");
                }
            }
        }
    }

    private static void numbers() {
        expression("0", "2");
        expression("2147483647", "2:2147483647");
        expression("0000000000000000002147483647", "2:2147483647");
        expression("000", "2");
        for (String great : new String[] {"2147483648", "2147483650", "4294967296", "4294967297", "9223372036854775808",
            "18446744073709551617", "99999999999999999999999999999999", "00002147483648"}) {
            fault(2, "unit u is generic(g:logic:=@" + great + "); end;");
            fault(2, "unit @" + great + " is end;");
            fault(2, "@" + great);
        }
        fault(3, "unit u is generic(g:logic:=1@a); end;");
        fault(3, "unit u is generic(g:logic:=1 @2); end;");
        Check.same("a number and a unit of time without a space",
            Check.told(Check.of("body b of a is begin x<=1 after 3ns; end;")),
            "74(73:23(1:24 48 48(61(1:25 0 48(31(2:1 32:13(2:3)))))))");
    }

    private static void signs() {
        String all = "UX01ZWLH-";
        for (int i = 0; i < all.length(); i++) {
            String due = i == 0 ? "3" : "3:" + i;
            expression("'" + all.charAt(i) + "'", due);
            expression("'" + Character.toLowerCase(all.charAt(i)) + "'", due);
            expression("\"" + all.charAt(i) + "\"", "4(" + due + ")");
            expression("\"" + Character.toLowerCase(all.charAt(i)) + "\"", "4(" + due + ")");
        }
        fault(3, "unit u is generic(g:logic:=@'2'); end;");
        fault(3, "unit u is generic(g:logic:=@'a'); end;");
        fault(3, "unit u is generic(g:logic:=@' 1'); end;");
        fault(3, "unit u is generic(g:logic:=@'1 '); end;");
        fault(3, "unit u is generic(g:logic:=@''); end;");
        fault(3, "unit u is generic(g:logic:=@'1");
        fault(3, "unit u is generic(g:logic:=@'");
        fault(3, "unit u is generic(g:logic:=@'--'); end;");
        expression("'-'", "3:8");
    }

    private static void quotes() {
        expression("a'u", "25:25(1:26)");
        expression("a 'u", "25:25(1:26)");
        expression("a ' u", "25:25(1:26)");
        expression("a'\n--'1'\nevent", "25:25(1:15)");
        // Right behind a name that is no word a ' is a mark, and what follows is read by itself.
        fault(3, "unit u is generic(g:logic:=a'@1'); end;");
        fault(3, "unit u is generic(g:logic:=a'x@'); end;");
        fault(3, "unit u is generic(g:logic:=a'x@'1'); end;");
        fault(3, "unit u is generic(g:logic:=a'@-'); end;");
        fault(3, "unit u is generic(g:logic:=a @'1'); end;");
        fault(3, "unit u is generic(g:logic:=a--\n@'1'); end;");
        expression("not'1'", "20(3:3)");
        expression("a and'1'and'0'", "21(21(1:25 3:3) 3:2)");
        expression("(a)&'1'", "21:14(1:25 3:3)");
        fault(3, "unit u is generic(g:logic:=1@'1'); end;");
        fault(3, "unit u is generic(g:logic:=(a)@'u); end;");
        fault(3, "unit u is generic(g:logic:=a(1)@'u); end;");
        fault(3, "unit u is generic(g:logic:=a'u@'u); end;");
        fault(3, "unit u is generic(g:logic:=a'@range); end;");
        fault(3, "unit u is generic(g:logic:=a'@(1)); end;");
        fault(3, "unit u is generic(g:logic:=a'u@(1)); end;");
    }

    private static void rows() {
        expression("\"01xZ\"", "4(3:2 3:3 3:1 3:4)");
        expression("\"--\"", "4(3:8 3:8)");
        String signs = "01".repeat(32);
        StringBuilder due = new StringBuilder("4(3:2 3:3");
        for (int i = 1; i < 32; i++) {
            due.append(" 3:2 3:3");
        }
        expression("\"" + signs + "\"", due.append(")").toString());
        fault(1, "unit u is generic(g:logic:=@\"" + signs + "0\"); end;");
        fault(1, "unit u is generic(g:logic:=@\"\"); end;");
        fault(1, "unit u is generic(g:logic:=@\"0 1\"); end;");
        fault(1, "unit u is generic(g:logic:=@\"02\"); end;");
        fault(1, "unit u is generic(g:logic:=@\"20\"); end;");
        fault(1, "unit u is generic(g:logic:=@\"2\"); end;");
        fault(1, "unit u is generic(g:logic:=@\"0");
        fault(1, "unit u is generic(g:logic:=@\"" + signs);
        fault(1, "unit u is generic(g:logic:=@\"");
        fault(1, "unit u is generic(g:logic:=\"0\"@\"); end;");
        fault(3, "unit u is generic(g:logic:=\"0\"@\"1\"); end;");
    }

    private static void marks() {
        String[] marks = "( ) , ; : := <= => = /= < > >= + - * / & ' |".split(" ");
        for (String mark : marks) {
            fault(3, "unit @" + mark + " is end;");
            fault(3, "unit @" + mark + "a is end;");
            fault(3, "@" + mark);
        }
        // Each as long as it can be: what is left behind it is a token of its own.
        fault(3, "unit u is generic(g:logic@: =1); end;");
        fault(3, "unit u is generic(g:logic@<=1); end;");
        fault(3, "unit u is generic(g:logic:=a<=@=b); end;");
        fault(3, "unit u is generic(g:logic:=a=@<b); end;");
        fault(3, "unit u is generic(g:logic:=a=@=>b); end;");
        fault(3, "unit u is generic(g:logic:=a/@/=b); end;");
        fault(3, "unit u is generic(g:logic:=a<@>b); end;");
        fault(3, "unit u is generic(g:logic:=a@:=b); end;");
        fault(3, "unit u is generic(g:logic@::=b); end;");
        expression("a<=b", "21:9(1:25 1:26)");
        expression("a>=b", "21:11(1:25 1:26)");
        expression("a/=b", "21:7(1:25 1:26)");
    }

    private static void everyCharacterAlone() {
        String begins = "(),;:=<>+-*/&'|";
        for (int c = 0; c < 256; c++) {
            String space = c == 32 || c == 9 || c == 10 ? "" : "@";
            boolean token = space.isEmpty() || begins.indexOf(c) >= 0 || c < 128 && Character.isLetterOrDigit(c);
            String text = "unit a is end; " + (char) c;
            SourceTree x = Check.of(text);
            int due = space.isEmpty() ? 0 : token ? 3 : 1;
            Check.same("character " + c, x.read(), due);
            Check.same("place of character " + c, x.place(), due == 0 ? -1 : 15);
        }
    }

    private static void good(String text) {
        SourceTree x = Check.of(text);
        Check.same(text, x.read(), 0);
        Check.same("place of " + text, x.place(), -1);
    }

    private static void fault(int due, String marked) {
        int place = marked.indexOf('@');
        String text = marked.substring(0, place) + marked.substring(place + 1);
        Check.same(text, Check.told(Check.of(text)), "fault " + due + " at " + place);
    }

    /** The names of the expression begin with number 25. */
    private static void expression(String text, String due) {
        Check.same(text, Check.told(Check.of("unit u_0 is generic(g_0:logic:=" + text + "\n); end;")),
            "74(70:23(48(71:24(10:4 " + due + ")) 48))");
    }
}
