/** The grammar: every rule of it with the tree that is due. */
public final class TreeTest {
    public static void main(String[] args) {
        units();
        bodies();
        types();
        declarations();
        expressions();
        primaries();
        concurrents();
        maps();
        generates();
        processes();
        assignments();
        ifs();
        cases();
        loops();
        simpleStatements();
        everyOptional();
        veryMany();
        Check.end();
    }

    private static void units() {
        tree("unit a is end;", "70:23(48 48)");
        tree("unit a is end unit;", "70:23(48 48)");
        tree("unit a is end a;", "70:23(48 48)");
        tree("unit a is end unit a;", "70:23(48 48)");
        tree("unit a is end; unit b is end; unit a is end;", "70:23(48 48) 70:24(48 48) 70:23(48 48)");
        tree("unit a is generic(g:logic); end;", "70:23(48(71:24(10:4 0)) 48)");
        tree("unit a is port(g:in logic); end;", "70:23(48 48(72:24(2 10:4 0)))");
        tree("unit a is generic(g:logic;h:bits:=1);port(p:out logic;q:inout logic:=2); end;",
            "70:23(48(71:24(10:4 0) 71:25(10:11 2:1)) 48(72:26(2:1 10:4 0) 72:27(2:2 10:4 2:2)))");
        tree("unit a is generic(g,h,i:row(1 to 2):=3;j:logic); end;",
            "70:23(48(71:24(12:5(2:1 2:2) 2:3) 71:25(12:5(2:1 2:2) 2:3) 71:26(12:5(2:1 2:2) 2:3) 71:27(10:4 0)) 48)");
        tree("unit a is port(g,h:inout row(1 downto 2)); end;",
            "70:23(48 48(72:24(2:2 13:5(2:1 2:2) 0) 72:25(2:2 13:5(2:1 2:2) 0)))");
    }

    private static void bodies() {
        tree("body a of b is begin end;", "73:23(1:24 48 48)");
        tree("body a of a is begin end body;", "73:23(1:23 48 48)");
        tree("body a of b is begin end a;", "73:23(1:24 48 48)");
        tree("body a of b is begin end body a;", "73:23(1:24 48 48)");
        tree("body a of b is begin end; unit b is end;", "73:23(1:24 48 48) 70:24(48 48)");
    }

    private static void types() {
        declaration("subtype s is integer;", "54:25(10)");
        declaration("subtype s is natural;", "54:25(10:1)");
        declaration("subtype s is s;", "54:25(10:25)");
        declaration("subtype s is integer range 1 to 2;", "54:25(11(2:1 2:2))");
        declaration("subtype s is integer range -1 to a+1;", "54:25(11(20:1(2:1) 21:12(1:26 2:1)))");
        declaration("subtype s is row(1 to 2);", "54:25(12:5(2:1 2:2))");
        declaration("subtype s is row(n-1 downto 0);", "54:25(13:5(21:13(1:26 2:1) 2))");
    }

    private static void declarations() {
        declaration("signal s:logic;", "50:25(10:4 0)");
        declaration("signal s:logic:='1';", "50:25(10:4 3:3)");
        declaration("signal s,t:logic;", "50:25(10:4 0) 50:26(10:4 0)");
        declaration("signal s,t,s:integer range 1 to 2:=a;",
            "50:25(11(2:1 2:2) 1:27) 50:26(11(2:1 2:2) 1:27) 50:25(11(2:1 2:2) 1:27)");
        declaration("constant c:logic:='1';", "51:25(10:4 3:3)");
        declaration("constant c,d:logic:=\"10\";", "51:25(10:4 4(3:3 3:2)) 51:26(10:4 4(3:3 3:2))");
        declaration("type t is(a);", "53:25(1:26)");
        declaration("type t is(a,b,t,true);", "53:25(1:26 1:27 1:25 1:6)");
        declaration("type t is(a);signal s:t;subtype u is t;constant c:u:=a;",
            "53:25(1:26) 50:27(10:25 0) 54:28(10:25) 51:29(10:28 1:26)");
    }

    private static void expressions() {
        String[] once = {"nand", "2", "nor", "3", "xnor", "5", "=", "6", "/=", "7", "<", "8", "<=", "9", ">", "10",
            ">=", "11", "sll", "19", "srl", "20"};
        for (int i = 0; i < once.length; i += 2) {
            expression("a " + once[i] + " b", "21:" + once[i + 1] + "(1:25 1:26)");
        }
        for (String logic : new String[] {"nand:2", "nor:3", "xor:4", "xnor:5", "or:1"}) {
            String word = logic.substring(0, logic.indexOf(':'));
            String value = logic.substring(logic.indexOf(':'));
            expression("a=b " + word + " c<d", "21" + value + "(21:6(1:25 1:26) 21:8(1:27 1:28))");
            expression("-a " + word + " -b", "21" + value + "(20:1(1:25) 20:1(1:26))");
        }
        String[] often = {"and", "", "or", ":1", "xor", ":4", "+", ":12", "-", ":13", "&", ":14", "*", ":15", "/", ":16",
            "mod", ":17", "rem", ":18"};
        for (int i = 0; i < often.length; i += 2) {
            String o = often[i];
            String v = "21" + often[i + 1];
            expression("a " + o + " b", v + "(1:25 1:26)");
            expression("a " + o + " b " + o + " c", v + "(" + v + "(1:25 1:26) 1:27)");
        }
        expression("a+b-c&d", "21:14(21:13(21:12(1:25 1:26) 1:27) 1:28)");
        expression("a*b/c mod d rem e", "21:18(21:17(21:16(21:15(1:25 1:26) 1:27) 1:28) 1:29)");
        expression("a+b*c", "21:12(1:25 21:15(1:26 1:27))");
        expression("a*b+c", "21:12(21:15(1:25 1:26) 1:27)");
        expression("-a", "20:1(1:25)");
        expression("+a", "20:2(1:25)");
        expression("-a*b", "20:1(21:15(1:25 1:26))");
        expression("-a*b+c", "21:12(20:1(21:15(1:25 1:26)) 1:27)");
        expression("-a-b", "21:13(20:1(1:25) 1:26)");
        expression("+a&b", "21:14(20:2(1:25) 1:26)");
        expression("not a", "20(1:25)");
        expression("abs a", "20:3(1:25)");
        expression("-abs a", "20:1(20:3(1:25))");
        expression("-not a*abs b", "20:1(21:15(20(1:25) 20:3(1:26)))");
        expression("not a and b", "21(20(1:25) 1:26)");
        expression("not(not a)", "20(20(1:25))");
        expression("a sll-b", "21:19(1:25 20:1(1:26))");
        expression("a=-b", "21:6(1:25 20:1(1:26))");
        expression("a and-b=+c", "21(1:25 21:6(20:1(1:26) 20:2(1:27)))");
        expression("a+b sll c+d", "21:19(21:12(1:25 1:26) 21:12(1:27 1:28))");
        expression("a sll b=c srl d", "21:6(21:19(1:25 1:26) 21:20(1:27 1:28))");
        expression("a=b and c<d", "21(21:6(1:25 1:26) 21:8(1:27 1:28))");
        expression("a=b and c=d and e", "21(21(21:6(1:25 1:26) 21:6(1:27 1:28)) 1:29)");
        expression("a sll b or c sll d or e=f sll g",
            "21:1(21:1(21:19(1:25 1:26) 21:19(1:27 1:28)) 21:6(1:29 21:19(1:30 1:31)))");
        expression("(a and b)or c", "21:1(21(1:25 1:26) 1:27)");
        expression("(a=b)=c", "21:6(21:6(1:25 1:26) 1:27)");
        expression("a-(b-c)", "21:13(1:25 21:13(1:26 1:27))");
        expression("a nand(b nand c)", "21:2(1:25 21:2(1:26 1:27))");
        expression("a*(-b)", "21:15(1:25 20:1(1:26))");
        expression("-a+b*not c&d sll 1<=e xor f",
            "21:4(21:9(21:19(21:14(21:12(20:1(1:25) 21:15(1:26 20(1:27))) 1:28) 2:1) 1:29) 1:30)");
    }

    private static void primaries() {
        expression("a", "1:25");
        expression("((a))", "1:25");
        expression("a(1)", "22:25(2:1)");
        expression("a(1,2,b)", "22:25(2:1 2:2 1:26)");
        expression("a(1 to 2)", "23:25(2:1 2:2)");
        expression("a(1 downto 2)", "24:25(2:1 2:2)");
        expression("a(b(c(1)),d(2 to 3))", "22:25(22:26(22:27(2:1)) 23:28(2:2 2:3))");
        expression("a(1+2 to b*3)", "23:25(21:12(2:1 2:2) 21:15(1:26 2:3))");
        expression("a'event", "25:25(1:15)");
        expression("a'b=c'd", "21:6(25:25(1:26) 25:27(1:28))");
        expression("row(1)", "22:5(2:1)");
        expression("integer(1 to 2)", "23(2:1 2:2)");
        expression("12", "2:12");
        expression("'z'", "3:4");
        expression("\"1-\"", "4(3:3 3:8)");
    }

    private static void concurrents() {
        concurrent("s<=a;", "61(1:25 0 48(31(1:26 0)))");
        concurrent("l:s<=a;", "61(1:26 0 48(31(1:27 0)))");
        concurrent("s(1)<=a;", "61(22:25(2:1) 0 48(31(1:26 0)))");
        concurrent("s(1 to 2)<=a;", "61(23:25(2:1 2:2) 0 48(31(1:26 0)))");
        concurrent("l:s(2 downto 1)<=a;", "61(24:26(2:2 2:1) 0 48(31(1:27 0)))");
        concurrent("s<=inertial a;", "61(1:25 0 48(31(1:26 0)))");
        concurrent("s<=transport a;", "61:1(1:25 0 48(31(1:26 0)))");
        concurrent("s<=reject 2 ns inertial a;", "61:2(1:25 32:13(2:2) 48(31(1:26 0)))");
        concurrent("s<=a after 1 ps,b,c after(d) us;",
            "61(1:25 0 48(31(1:26 32:12(2:1)) 31(1:27 0) 31(1:28 32:14(1:29))))");
        concurrent("s<=a when b else c;", "61(1:25 0 48(31(1:26 0)) 1:27 48(31(1:28 0)))");
        concurrent("s<=transport a,b when c=d else e after f ns,g when h else i;",
            "61:1(1:25 0 48(31(1:26 0) 31(1:27 0)) 21:6(1:28 1:29)"
            + " 48(31(1:30 32:13(1:31)) 31(1:32 0)) 1:33 48(31(1:34 0)))");
        concurrent("s<=a<=b;", "61(1:25 0 48(31(21:9(1:26 1:27) 0)))");
        concurrent("s<=a after ns ns;", "61(1:25 0 48(31(1:26 32:13(1:13))))");
        concurrent("s<=a after b(1)us;", "61(1:25 0 48(31(1:26 32:14(22:27(2:1)))))");
        concurrent("s<=a after b'c us;", "61(1:25 0 48(31(1:26 32:14(25:27(1:28)))))");
    }

    private static void maps() {
        concurrent("l:unit m;", "62:25(1:26 48 48)");
        concurrent("l:unit m generic map(a=>1);", "62:25(1:26 48(63:27(2:1)) 48)");
        concurrent("l:unit m port map(a=>open);", "62:25(1:26 48 48(63:27(0)))");
        concurrent("l:unit m generic map(a=>1,b=>open)port map(c=>d,e=>f(1),g=>'1');",
            "62:25(1:26 48(63:27(2:1) 63:28(0)) 48(63:29(1:30) 63:31(22:32(2:1)) 63:33(3:3)))");
    }

    private static void generates() {
        concurrent("l:for i in 0 to 7 generate end generate;", "64:25(1:26 2 2:7 48)");
        concurrent("l:for i in a to b generate s<=i;m:unit u;end generate l;",
            "64:25(1:26 1:27 1:28 48(61(1:29 0 48(31(1:26 0))) 62:30(1:31 48 48)))");
        concurrent("l:if a generate end generate;", "65:25(1:26 48)");
        concurrent("l:if a=b generate m:if c generate process begin end process;end generate m;end generate l;",
            "65:25(21:6(1:26 1:27) 48(65:28(1:29 48(60:-1(0 48 48)))))");
    }

    private static void processes() {
        concurrent("process begin end process;", "60:-1(0 48 48)");
        concurrent("process is begin end process;", "60:-1(0 48 48)");
        concurrent("p:process begin end process;", "60:25(0 48 48)");
        concurrent("p:process begin end process p;", "60:25(0 48 48)");
        concurrent("process(a)begin end process;", "60:-1(48(1:25) 48 48)");
        concurrent("p:process(a,b,a)is begin end process p;", "60:25(48(1:26 1:27 1:26) 48 48)");
        concurrent("process variable a,b:logic;constant c:bits:=1;variable d:logic:=2;begin null;null;end process;",
            "60:-1(0 48(52:25(10:4 0) 52:26(10:4 0) 51:27(10:11 2:1) 52:28(10:4 2:2)) 48(45 45))");
    }

    private static void assignments() {
        statement("s<=a;", "30(1:25 31(1:26 0))");
        statement("s<=inertial a;", "30(1:25 31(1:26 0))");
        statement("s<=transport a,b after 1 ns;", "30:1(1:25 31(1:26 0) 31(1:27 32:13(2:1)))");
        statement("s<=reject 2 ps inertial a,b;", "30:2(1:25 32:12(2:2) 31(1:26 0) 31(1:27 0))");
        statement("s(1)<=a;", "30(22:25(2:1) 31(1:26 0))");
        statement("s:=a;", "33(1:25 1:26)");
        statement("s(a downto 0):=b;", "33(24:25(1:26 2) 1:27)");
        statement("s(a to 0):=b<=c;", "33(23:25(1:26 2) 21:9(1:27 1:28))");
    }

    private static void ifs() {
        statement("if a then end if;", "34(1:25 48 48)");
        statement("if a then else end if;", "34(1:25 48 48)");
        statement("if a then null;else null;null;end if;", "34(1:25 48(45) 48(45 45))");
        statement("if a then null;elsif b then end if;", "34(1:25 48(45) 1:26 48 48)");
        statement("if a then null;elsif b then elsif c then x:=1;else null;end if;",
            "34(1:25 48(45) 1:26 48 1:27 48(33(1:28 2:1)) 48(45))");
        statement("if a then if b then end if;else if c then null;end if;end if;",
            "34(1:25 48(34(1:26 48 48)) 48(34(1:27 48(45) 48)))");
    }

    private static void cases() {
        statement("case a is when 1=>end case;", "35(1:25 36(48(2:1) 48))");
        statement("case a is when 1|b|\"0\"=>null;when others=>null;null;when c=>end case;",
            "35(1:25 36(48(2:1 1:26 4(3:2)) 48(45)) 36(48(37) 48(45 45)) 36(48(1:27) 48))");
        statement("case a is when others|1|others=>end case;", "35(1:25 36(48(37 2:1 37) 48))");
        statement("case a is when 1=>case b is when 2=>end case;end case;",
            "35(1:25 36(48(2:1) 48(35(1:26 36(48(2:2) 48)))))");
    }

    private static void loops() {
        statement("for i in 0 to 7 loop end loop;", "38:25(2 2:7 48)");
        statement("for i in 7 downto 0 loop null;end loop;", "39:25(2:7 2 48(45))");
        statement("while a loop null;end loop;", "40(1:25 48(45))");
        statement("loop exit;next;end loop;", "41(48(42(0) 43(0)))");
        statement("loop for i in 1 to 2 loop while i loop end loop;end loop;end loop;",
            "41(48(38:25(2:1 2:2 48(40(1:25 48)))))");
    }

    private static void simpleStatements() {
        statement("exit;", "42(0)");
        statement("exit when a;", "42(1:25)");
        statement("next;", "43(0)");
        statement("next when a=b;", "43(21:6(1:25 1:26))");
        statement("wait;", "44(48 0 0)");
        statement("wait on a;", "44(48(1:25) 0 0)");
        statement("wait on a,b until c for d ns;", "44(48(1:25 1:26) 1:27 32:13(1:28))");
        statement("wait until a;", "44(48 1:25 0)");
        statement("wait for 3 us;", "44(48 0 32:14(2:3))");
        statement("wait on a for 3 us;", "44(48(1:25) 0 32:14(2:3))");
        statement("null;", "45");
        statement("report a;", "46(1:25)");
        statement("assert a report b;", "47(1:25 1:26)");
    }

    // "[x] x or nothing": all that may be left out, there and not there, one without the other.
    private static void everyOptional() {
        for (int way = 0; way < 16; way++) {
            boolean[] there = {(way & 1) != 0, (way & 2) != 0, (way & 4) != 0, (way & 8) != 0};
            tree("unit a is " + (there[0] ? "generic(b:logic);" : "") + (there[1] ? "port(b:in logic);" : "") + "end "
                + (there[2] ? "unit " : "") + (there[3] ? "a" : "") + ";",
                "70:23(48" + (there[0] ? "(71:24(10:4 0))" : "") + " 48" + (there[1] ? "(72:24(2 10:4 0))" : "") + ")");
            statement("wait " + (there[0] ? "on true " : "") + (there[1] ? "until 5 " : "") + (there[2] ? "for 7 ns" : "") + ";",
                "44(48" + (there[0] ? "(1:6)" : "") + (there[1] ? " 2:5" : " 0") + (there[2] ? " 32:13(2:7)" : " 0") + ")");
            concurrent((there[0] ? "low:" : "") + "process" + (there[1] ? "(true)" : "") + (there[2] ? " is" : "")
                + " begin end process" + (there[0] && there[3] ? " low" : "") + ";",
                "60:" + (there[0] ? "22" : "-1") + "(" + (there[1] ? "48(1:6)" : "0") + " 48 48)");
            concurrent("low:unit high " + (there[0] ? "generic map(true=>1)" : "") + (there[1] ? "port map(true=>1)" : "") + ";",
                "62:22(1:21 48" + (there[0] ? "(63:6(2:1))" : "") + " 48" + (there[1] ? "(63:6(2:1))" : "") + ")");
            statement("if 1 then " + (there[0] ? "null;" : "") + (there[1] ? "elsif 2 then " + (there[3] ? "null;" : "") : "")
                + (there[2] ? "else " + (there[3] ? "null;" : "") : "") + "end if;",
                "34(2:1 48" + (there[0] ? "(45)" : "") + (there[1] ? " 2:2 48" + (there[3] ? "(45)" : "") : "")
                + " 48" + (there[2] && there[3] ? "(45)" : "") + ")");
        }
    }

    // "{x} any number of x": as many as the text and the nodes have room for.
    private static void veryMany() {
        int n = 1100;
        tree("unit a is end;".repeat(n), "70:23(48 48)" + " 70:23(48 48)".repeat(n - 1));
        tree("unit low is generic(low:low" + ";low:low".repeat(n) + ");end;", "70:22(48(" + "71:22(10:22 0) ".repeat(n)
            + "71:22(10:22 0)) 48)");
        tree("unit low is port(low:in low" + ";low:in low".repeat(n) + ");end;", "70:22(48 48("
            + "72:22(2 10:22 0) ".repeat(n) + "72:22(2 10:22 0)))");
        declaration("signal low" + ",low".repeat(3000) + ":low;", "50:22(10:22 0)" + " 50:22(10:22 0)".repeat(3000));
        declaration("signal low:low;".repeat(n - 50), "50:22(10:22 0)" + " 50:22(10:22 0)".repeat(n - 51));
        declaration("type low is(us" + ",us".repeat(5000) + ");", "53:22(1:14" + " 1:14".repeat(5000) + ")");
        concurrent("low<=1;".repeat(2 * n), "61(1:22 0 48(31(2:1 0)))" + " 61(1:22 0 48(31(2:1 0)))".repeat(2 * n - 1));
        concurrent("low<=1" + ",1".repeat(5000) + ";", "61(1:22 0 48(" + "31(2:1 0) ".repeat(5000) + "31(2:1 0)))");
        concurrent("low<=1" + " when 1 else 1".repeat(n) + ";", "61(1:22 0 48(31(2:1 0))" + " 2:1 48(31(2:1 0))".repeat(n) + ")");
        concurrent("us:unit us port map(us=>1" + ",us=>1".repeat(2 * n) + ");", "62:14(1:14 48 48("
            + "63:14(2:1) ".repeat(2 * n) + "63:14(2:1)))");
        concurrent("process(us" + ",us".repeat(5000) + ")begin end process;", "60:-1(48(" + "1:14 ".repeat(5000) + "1:14) 48 48)");
        statement("null;".repeat(3000), "45" + " 45".repeat(2999));
        statement("if 1 then " + "elsif 1 then ".repeat(n) + "else end if;", "34(2:1 48" + " 2:1 48".repeat(n) + " 48)");
        statement("case 1 is " + "when 1=>".repeat(1900) + "end case;", "35(2:1" + " 36(48(2:1) 48)".repeat(1900) + ")");
        statement("case 1 is when 1" + "|1".repeat(8000) + "=>end case;", "35(2:1 36(48(2:1" + " 2:1".repeat(8000) + ") 48))");
        statement("wait on us" + ",us".repeat(5000) + ";", "44(48(1:14" + " 1:14".repeat(5000) + ") 0 0)");
        statement("us<=1" + ",1".repeat(5000) + ";", "30(1:14" + " 31(2:1 0)".repeat(5001) + ")");
        expression("us(1" + ",1".repeat(8000) + ")", "22:14(2:1" + " 2:1".repeat(8000) + ")");
        expression("1" + "+1".repeat(8000), "21:12(".repeat(8000) + "2:1" + " 2:1)".repeat(8000));
        expression("1" + "*1".repeat(8000), "21:15(".repeat(8000) + "2:1" + " 2:1)".repeat(8000));
        expression("1" + " and 1".repeat(2000), "21(".repeat(2000) + "2:1" + " 2:1)".repeat(2000));
        expression("1" + " or-1".repeat(2000), "21:1(".repeat(2000) + "2:1" + " 20:1(2:1))".repeat(2000));
    }

    private static void tree(String text, String due) {
        Check.same(text, Check.told(Check.of(text)), "74(" + due + ")");
    }

    /** The names of a declaration, expression, concurrent or statement begin with number 25. */
    private static void declaration(String text, String due) {
        tree("body u_0 of v_0 is " + text + " begin end;", "73:23(1:24 48(" + due + ") 48)");
    }

    private static void expression(String text, String due) {
        tree("unit u_0 is generic(g_0:logic:=" + text + "); end;", "70:23(48(71:24(10:4 " + due + ")) 48)");
    }

    private static void concurrent(String text, String due) {
        tree("body u_0 of v_0 is begin " + text + "end;", "73:23(1:24 48 48(" + due + "))");
    }

    private static void statement(String text, String due) {
        tree("body u_0 of v_0 is begin process begin " + text + "end process;end;",
            "73:23(1:24 48 48(60:-1(0 48 48(" + due + "))))");
    }
}
