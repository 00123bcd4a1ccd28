/** Fault 4, for names and for nodes, and when each node comes; and which of several faults is told. */
public final class LimitTest {
    public static void main(String[] args) {
        names();
        nodes();
        unitsAndBodies();
        declarations();
        expressions();
        concurrents();
        processes();
        statements();
        orderOfFaults();
        Check.end();
    }

    /** Declares all names up to that number, 23 to 26 being f, t, n0 and n1. */
    static String namesUpTo(int number) {
        StringBuilder s = new StringBuilder("body f of f is type t is(n0");
        for (int n = 26; n <= number; n++) {
            s.append(",n").append(n - 25);
        }
        return s.append("); begin end; ").toString();
    }

    private static void names() {
        SourceTree x = Check.of(namesUpTo(999));
        Check.same("the last name is read", x.read(), 0);
        Check.same("count", x.names(), 1000);
        Check.same("name 999", Check.nameOf(x, 999), "n974");
        Check.same("name 25", Check.nameOf(x, 25), "n0");
        Check.same("its node's value", x.node(1 + 974, 1), 999);
        // Every name is found again, also in a text read before.
        StringBuilder again = new StringBuilder(namesUpTo(999)).append("body f of f is type t is(n974");
        for (int n = 973; n >= 0; n--) {
            again.append(",n").append(n);
        }
        x = Check.of(again.append("); begin end;").toString());
        for (int time = 0; time < 2; time++) {
            Check.same("every name again", x.read(), 0);
            Check.same("no name is new", x.names(), 1000);
            for (int i = 0; i < 975; i++) {
                Check.same("number of name " + i, x.node(1 + i, 1), 25 + i);
                Check.same("number of name from last " + i, x.node(981 + i, 1), 999 - i);
            }
        }
        String full = namesUpTo(999);
        due(full + "unit n500 is end;", 0, -1);
        due(full + "unit f is end low;", 6, full.length() + 14);
        due(full + "unit more is end;", 4, full.length() + 5);
        due(full + "more", 4, full.length());
        due(full + "unit more", 4, full.length() + 5);
        due(full + "unit f is end more;", 4, full.length() + 14);
        due(full + "unit f more", 4, full.length() + 7);
        due(full + "unit f is _more", 1, full.length() + 10);
        due(full + "unit f is 99999999999 more", 2, full.length() + 10);
        due(full + "unit f is f more", 3, full.length() + 10);
        due(namesUpTo(998) + "unit more is end;", 0, -1);
        String one = namesUpTo(998);
        due(one + "unit more is end much;", 4, one.length() + 17);
        // Faults and a new text give the names free again.
        x.cut(0);
        Check.put(x, namesUpTo(1000));
        Check.same("one name more", x.read(), 4);
        Check.same("only the first names are left", x.names(), 23);
        x.cut(0);
        Check.put(x, "unit other is end;");
        Check.same("read after it", x.read(), 0);
        Check.same("its name", Check.nameOf(x, 23), "other");
    }

    private static void due(String text, int fault, int place) {
        SourceTree x = Check.of(text);
        Check.same("fault of .." + text.substring(Math.max(0, text.length() - 30)), x.read(), fault);
        Check.same("place of .." + text.substring(Math.max(0, text.length() - 30)), x.place(), place);
    }

    private static void nodes() {
        SourceTree x = Check.of(RandomSource.filler(16383));
        Check.same("16384 nodes are read", x.read(), 0);
        Check.same("count", x.nodes(), 16384);
        Check.same("the last", x.node(16383, 0), 74);
        x = Check.of(RandomSource.filler(16384));
        Check.same("16385 are too many", x.read(), 4);
        Check.same("place", x.place(), x.length());
        Check.same("none is left", x.nodes(), 0);
    }

    private static void unitsAndBodies() {
        timing("unit a is [2]end;[2]", 0);
        timing("unit a is [2]end;[1]unit b is [2]end unit b;[2]", 0);
        timing("unit a is generic(g:natural[4]); [1]end;[2]", 0);
        timing("unit a is generic(g:natural[1]:=1[3]); [1]end;[2]", 0);
        timing("unit a is generic(g:natural[3];h:integer[4]); [1]end;[2]", 0);
        timing("unit a is generic(g,h:natural[7]); [1]end;[2]", 0);
        timing("unit a is [1]port(p,q:in [1]row(1[1] to 2[1])[1]:=b[8+1]); end;[2]", 0);
        timing("unit a is [1]port(p:inout [1]logic[3];q:out [1]integer range 1[1] to 2[2]:=3[3]); end;[2]", 0);
        timing("body b of a [1]is [1]begin [1]end;[2]", 0);
        timing("unit a is [2]begin", 3);
        timing("unit a is generic(g:natural[4],", 3);
        timing("unit a is generic(g:integer[4]:", 3);
        timing("unit a is generic(g:natural[4]); [1]generic", 3);
        timing("unit a is [2]end;[2]a", 3);
        timing("unit a is [2]end b;", 6);
        timing("body b of a [1]a", 3);
        timing("body b of a [1]is [1]variable", 3);
        timing("body b of a [1]is [1]begin [1]unit", 3);
    }

    private static void declarations() {
        String begin = "body b of a [1]is ";
        String end = "[1]begin [1]end;[2]";
        timing(begin + "signal s:logic[2]; [1]" + end, 0);
        timing(begin + "signal s:logic[1]:='1'[1]; [1]" + end, 0);
        timing(begin + "signal s,t,u:logic[1]:=\"10\"[3]; [11+1]begin [1]end;[2]", 0);
        timing(begin + "constant c,d:integer[1]:=a[1]; [1+3]" + end, 0);
        timing(begin + "type t is(u[1],v[1]); [1]" + end, 0);
        timing(begin + "subtype t is row(a[1] downto b[1])[1]; [1]" + end, 0);
        timing(begin + "signal s:logic[2] a", 3);
        timing(begin + "constant s:logic[1];", 3);
        timing(begin + "type t is(u[1];", 3);
        timing(begin + "signal s,t:logic[2]; [1+3+1]variable", 3);
    }

    private static void expressions() {
        String begin = "unit u is generic(g:logic[1]:=";
        String end = "[2]); [1]end;[2]";
        timing(begin + "a[1]+b[1]*c[1+2]" + end, 0);
        timing(begin + "a[1]*b[2]+c[2]" + end, 0);
        timing(begin + "-a[1]*b[3]+c[2]" + end, 0);
        timing(begin + "not a[2] and abs b[3] and c[2]" + end, 0);
        timing(begin + "a[1]=b[1] sll c[1]*d[4]" + end, 0);
        timing(begin + "(a[1])+(b[1])[1]" + end, 0);
        timing(begin + "a(b[1],c[1] and d[2])[1]" + end, 0);
        timing(begin + "a(b[1] to c[1])[1]+1[2]" + end, 0);
        timing(begin + "a'b[2]=\"01\"[4]" + end, 0);
        timing(begin + "a[1]=b[4]=", 3);
        timing(begin + "a[1] and b[4] or", 3);
        timing(begin + "-a[1+1+2] b", 3);
        timing(begin + "a[1]+b[4] '1'", 3);
        timing(begin + "a(b[1];", 3);
        timing(begin + "a(b[1] to c[1],", 3);
        timing(begin + "(-a[2],", 3);
    }

    private static void concurrents() {
        String begin = "body b of a [1]is [1]begin ";
        String end = "[1]end;[2]";
        timing(begin + "s[1]<=[1]c[4]; [1]" + end, 0);
        timing(begin + "l:s(1[1])[1]<=[1]transport c[1] after 1[1] ns[3]; [1]" + end, 0);
        timing(begin + "s[1]<=reject 2[1] ns[1] inertial c[3],d[4]; [1]" + end, 0);
        timing(begin + "s[1]<=[1]inertial c[4] when d[1] else e[4]; [1]" + end, 0);
        timing(begin + "l:unit m[3]; [1]" + end, 0);
        timing(begin + "l:unit m [1]generic map(c=>1[3])[1]; [1]" + end, 0);
        timing(begin + "l:unit m [2]port map(c=>1[2],d=>[1]open[2]); [1]" + end, 0);
        timing(begin + "l:for i [1]in 1[1] to 2[1] generate [1]end generate; [1]" + end, 0);
        timing(begin + "l:if c[1] generate [1]end generate l; [1]" + end, 0);
        timing(begin + "s[1];", 3);
        timing(begin + "s[1]<=[1];", 3);
        timing(begin + "s[1]<=[1]c[4] a", 3);
        timing(begin + "s[1]<=[1]c[1] after 1[1];", 3);
        timing(begin + "l:unit m[3] a", 3);
        timing(begin + "l:unit m [1]generic map(c=>1[3];", 3);
        timing(begin + "l:for i [1]in 1[1] to 2[1] generate [1]begin", 3);
        timing(begin + "l:if c[1] generate [1]end generate m", 6);
    }

    private static void processes() {
        String begin = "body b of a [1]is [1]begin ";
        String end = "[1]end;[2]";
        timing(begin + "process [2]begin [1]end process; [1]" + end, 0);
        timing(begin + "process [1]is [1]begin [1]end process; [1]" + end, 0);
        timing(begin + "p:process(s[1],t[2])[1]begin [1]end process p; [1]" + end, 0);
        timing(begin + "process [1]variable v,w:logic[2]; [4+1]begin null; [1+1]end process; [1]" + end, 0);
        timing(begin + "process(s[2];", 3);
        timing(begin + "process [2]signal", 3);
        timing(begin + "process [2]begin [1]begin", 3);
        timing(begin + "process [2]begin [1]end process c", 3);
        timing(begin + "p:process [2]begin [1]end process c", 6);
    }

    private static void statements() {
        String begin = "body b of a [1]is [1]begin process [2]begin ";
        String end = "[1]end process; [1+1]end;[2]";
        timing(begin + "s[1]:=1[1]; [1]" + end, 0);
        timing(begin + "s[1]<=transport c[3],d[1] after 1[1] ns[2]; [1]" + end, 0);
        timing(begin + "s[1]<=reject 1[1] ns[1] inertial c[3]; [1]" + end, 0);
        timing(begin + "if c[1] then [2]end if; [1]" + end, 0);
        timing(begin + "if c[1] then null; [1+1]elsif d[1] then [1]else [1]end if; [1]" + end, 0);
        timing(begin + "case c[1] is when 1[1]|2[2]=>[2]when others[2]=>null; [1+2]end case; [1]" + end, 0);
        timing(begin + "for i in 1[1] to 2[1] loop [1]end loop; [1]" + end, 0);
        timing(begin + "while c[1] loop [1]end loop; [1]" + end, 0);
        timing(begin + "loop exit[1]; [1]next when d[1]; [1+1]end loop; [1]" + end, 0);
        timing(begin + "wait[3]; [1]" + end, 0);
        timing(begin + "wait on c[1],d[2] until e[1] for 1[1] ns[1]; [1]" + end, 0);
        timing(begin + "wait [1]until e[2]; [1]" + end, 0);
        timing(begin + "wait [2]for 1[1] ns[1]; [1]" + end, 0);
        timing(begin + "report c[1]; [1]assert c[1] report d[1]; [1]" + end, 0);
        timing(begin + "s[1];", 3);
        timing(begin + "s[1]<=c[3] a", 3);
        timing(begin + "if c[1] then [2]when", 3);
        timing(begin + "case c[1] is when 1[2];", 3);
        timing(begin + "case c[1] is when 1[2]=>[2]else", 3);
        timing(begin + "exit[1] c", 3);
        timing(begin + "wait[3] c", 3);
        timing(begin + "wait on c[4](", 3);
    }

    private static void orderOfFaults() {
        String full = RandomSource.filler(16384);
        String at = "place " + (full.length() + 10);
        // Two LISTs would come before the token behind IS.
        Check.same("no token before nodes", faultAndPlace(full + "unit a is !"), "1 " + at);
        Check.same("great number before nodes", faultAndPlace(full + "unit a is 3000000000"), "2 " + at);
        Check.same("nodes before 3", faultAndPlace(full + "unit a is 1"), "4 " + at);
        Check.same("nodes at the end", faultAndPlace(full + "unit a is "), "4 " + at);
        // NAME, LIST, NOTHING and LIST come before the statements.
        String statements = "body b of a is begin process begin " + "loop ".repeat(40);
        String none = RandomSource.filler(16384 - 4) + statements;
        Check.same("5 without nodes", faultAndPlace(none + "loop"), "5 place " + none.length());
        Check.same("nodes before 5", faultAndPlace(none + "null; loop"), "4 place " + (none.length() + 6));
        String one = RandomSource.filler(16384 - 5) + statements;
        Check.same("5 behind the last node", faultAndPlace(one + "null; loop"), "5 place " + (one.length() + 6));
        // A fault at an earlier token comes first, whichever it is.
        Check.same("nodes before a later 1", faultAndPlace(full + "unit a is end _"), "4 " + at);
        Check.same("3 before later nodes", faultAndPlace(full + "unit a end is"), "3 place " + (full.length() + 7));
        Check.same("1 before later nodes", faultAndPlace(full + "unit a _ is end"), "1 place " + (full.length() + 7));
        // The 1000th name and the nodes are one fault at one place.
        String crowded = namesUpTo(998);
        int room = 16384 - nodesOf(crowded);
        String both = crowded + RandomSource.filler(room) + "unit more is ";
        Check.same("the 1000th name, and nodes", faultAndPlace(both + "much"), "4 place " + both.length());
        Check.same("the 1000th name, and 3", faultAndPlace(crowded + "unit more much"), "4 place " + (crowded.length() + 10));
        Check.same("the 1000th name, and 6", faultAndPlace(crowded + "unit more is end much"),
            "4 place " + (crowded.length() + 17));
        String six = RandomSource.filler(16384 - 2) + "unit a is end ";
        Check.same("6 without nodes", faultAndPlace(six + "b;"), "6 place " + six.length());
    }

    /** How many nodes a source has without that of the file. */
    private static int nodesOf(String source) {
        SourceTree x = Check.of(source);
        x.read();
        return x.nodes() - 1;
    }

    private static String faultAndPlace(String text) {
        SourceTree x = Check.of(text);
        return x.read() + " place " + x.place();
    }

    /**
     * [n] tells that n nodes come when the token before it was read: each of them as the 16385th is
     * a fault where the next token begins. With room for all of them the fault due is told.
     */
    private static void timing(String marked, int dueWithAll) {
        StringBuilder text = new StringBuilder();
        java.util.ArrayList<Integer> places = new java.util.ArrayList<>();
        for (int i = 0; i < marked.length(); i++) {
            if (marked.charAt(i) != '[') {
                text.append(marked.charAt(i));
                continue;
            }
            int end = marked.indexOf(']', i);
            int n = 0;
            for (String part : marked.substring(i + 1, end).split("\\+")) {
                n += Integer.parseInt(part);
            }
            int blanks = end + 1 < marked.length() && marked.charAt(end + 1) == ' ' ? 1 : 0;
            for (int k = 0; k < n; k++) {
                places.add(text.length() + blanks);
            }
            i = end;
        }
        for (int j = 0; j <= places.size(); j++) {
            String filler = RandomSource.filler(16384 - j);
            SourceTree x = Check.of(filler + text);
            boolean all = j == places.size();
            Check.same(j + " nodes of " + marked, x.read(), all ? dueWithAll : 4);
            if (!all) {
                Check.same("place with " + j + " nodes of " + marked, x.place() - filler.length(), places.get(j));
            } else if (dueWithAll == 0) {
                Check.same("all nodes of " + marked, x.nodes(), 16384);
            }
        }
    }
}
