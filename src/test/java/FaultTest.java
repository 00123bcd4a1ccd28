/** The faults 3, 5 and 6 and their places; '@' marks where the fault is due. */
public final class FaultTest {
    private static final String BODY = "body b of a is begin ";
    private static final String PROCESS = BODY + "process begin ";

    public static void main(String[] args) {
        endOfText();
        files();
        units();
        declarations();
        expressions();
        concurrents();
        processes();
        statements();
        namesBehindEnd();
        open();
        firstFaultOnly();
        Check.end();
    }

    private static void endOfText() {
        fault(3, "@");
        fault(3, "   @");
        fault(3, "-- nothing@");
        fault(3, "\n\n@");
        fault(3, "unit@");
        fault(3, "unit a is end@");
        fault(3, "unit a is end  -- ;@");
        fault(3, "unit a is end; unit@");
        // Every beginning of a source that is none itself goes on, so that the fault is its end.
        String source = "unit a is generic(g,h:row(1 to 2):=f(1,2 sll 3)); port(p:in logic:='1'); end unit a;"
            + " body b of a is signal s:integer range 1 to 2; type t is(u,v); begin l:process(s,p)is"
            + " variable x:t; begin if s=1 and not p then x:=u; elsif x'last then else s<=reject 1 ns inertial 2"
            + " after 3 ns,4; end if; case x is when u|v=>null; when others=>exit when p; end case; for i in 1"
            + " downto 2 loop wait on s until p for 1 ns; end loop; while p loop next; end loop; loop report s;"
            + " assert p report s; end loop; end process l; m:unit a generic map(g=>1,h=>open)port map(p=>p);"
            + " n:for i in 1 to 2 generate o:if p generate s<=1 when p else 2; end generate o; end generate; end body b;";
        for (int end = 0; end <= source.length(); end++) {
            if (end == 0 || end == source.length() || " ;(),|".indexOf(source.charAt(end - 1)) >= 0) {
                String part = source.substring(0, end);
                boolean whole = end == source.length() || part.trim().endsWith("unit a;");
                SourceTree x = Check.of(part);
                Check.same("first " + end + " characters", x.read(), whole ? 0 : 3);
                Check.same("place of first " + end, x.place(), whole ? -1 : end);
            }
        }
    }

    private static void files() {
        fault(3, "@a");
        fault(3, "@;");
        fault(3, "@end;");
        fault(3, "unit a is end;@;");
        fault(3, "unit a is end; @a");
        fault(3, "unit a is end; unit b is end; @process");
    }

    private static void units() {
        fault(3, "unit @is end;");
        fault(3, "unit @1 is end;");
        fault(3, "unit a @end;");
        fault(3, "unit a is @begin end;");
        fault(3, "unit a is end @body;");
        fault(3, "unit a is end unit @unit;");
        fault(3, "unit a is end a @unit;");
        fault(3, "unit a is generic@;");
        fault(3, "unit a is generic(@); end;");
        fault(3, "unit a is generic(g@); end;");
        fault(3, "unit a is generic(g,@:logic); end;");
        fault(3, "unit a is generic(g:@); end;");
        fault(3, "unit a is generic(g:@in logic); end;");
        fault(3, "unit a is generic(g:logic@,h:logic); end;");
        fault(3, "unit a is generic(g:logic;@); end;");
        fault(3, "unit a is generic(g:logic) @end;");
        fault(3, "unit a is generic(g:logic:=@); end;");
        fault(3, "unit a is generic(g:logic); @generic(h:logic); end;");
        fault(3, "unit a is port(p:in logic); @generic(h:logic); end;");
        fault(3, "unit a is port(p:in logic); @port(h:in logic); end;");
        fault(3, "unit a is port(p:@logic); end;");
        fault(3, "unit a is port(p:in @out logic); end;");
        fault(3, "unit a is port(p:in @1); end;");
        fault(3, "unit a is port(p:in logic) @port");
    }

    private static void declarations() {
        fault(3, "body b @is");
        fault(3, "body b of @is");
        fault(3, "body b of a @begin");
        fault(3, "body b of a is @end;");
        fault(3, "body b of a is @variable v:logic; begin end;");
        fault(3, "body b of a is signal s@;");
        fault(3, "body b of a is signal s:logic:=@;");
        fault(3, "body b of a is constant c:logic@;");
        fault(3, "body b of a is type t @(a);");
        fault(3, "body b of a is type t is(@);");
        fault(3, "body b of a is type t is(a,@);");
        fault(3, "body b of a is type t is(@1);");
        fault(3, "body b of a is type t@,u is(a);");
        fault(3, "body b of a is subtype t@:logic;");
        fault(3, "body b of a is subtype t is @(a);");
        fault(3, "body b of a is subtype t is row@;");
        fault(3, "body b of a is subtype t is row @range 1 to 2;");
        fault(3, "body b of a is subtype t is row(1@);");
        fault(3, "body b of a is subtype t is row(1@,2);");
        fault(3, "body b of a is subtype t is row(1 to 2@,3);");
        fault(3, "body b of a is subtype t is natural @range 1 to 2;");
        fault(3, "body b of a is subtype t is logic@(1 to 2);");
        fault(3, "body b of a is subtype t is integer@(1 to 2);");
        fault(3, "body b of a is subtype t is integer range 1 @downto 2;");
        fault(3, "body b of a is subtype t is integer range 1@;");
        fault(3, "body b of a is begin end @unit;");
    }

    private static void expressions() {
        String[] ends = {"@", "a+@", "a @b", "a and b @or c", "a or b @and c", "a xor b @or c", "a nand b @nand c",
            "a nor b @nor c", "a xnor b @xnor c", "a nand b @and c", "a and b @nand c", "a and b and c @xor d",
            "a=b@=c", "a=b@/=c", "a<b@<c", "a<=b@>=c", "a and b=c@=d", "a sll b @sll c", "a srl b @sll c",
            "a=b sll c @srl d", "a sll b=c sll d@=e", "not @not a", "not @abs a", "not @-a", "abs @+a", "a*@-b",
            "a+@-b", "a&@+b", "- @-a", "+@-a", "a and @and b", "a mod @mod", "a(@)", "a(1@;", "a(1,@)",
            "a(1 to@)", "a(1 to 2@,3)", "a(1,2 @to 3)", "a(1,2 @downto 3)", "a(1 to 2 @to 3)", "a(1)@(2)",
            "a(1 downto 2)@(2)", "(@)", "(a@,b)", "(a@;", "(a @to b)", "1@(2)", "'1'@(2)", "a'@1", "a'b@(1)",
            "a'b@'c", "a(1)@'b", "(a)@'b", "@others", "@open", "@*a", "@&a", "@=a", "1 @ns", "@and", "a @not b"};
        for (String end : ends) {
            fault(3, "unit u is generic(g:logic:=" + end + (end.indexOf("@;") >= 0 ? "" : "); end;"));
        }
    }

    private static void concurrents() {
        fault(3, BODY + "@if a generate");
        fault(3, BODY + "@for i in 1 to 2 generate");
        fault(3, BODY + "@unit m;");
        fault(3, BODY + "@null;");
        fault(3, BODY + "s@;");
        fault(3, BODY + "s@:=a;");
        fault(3, BODY + "s@'b<=a;");
        fault(3, BODY + "s(1@,2)<=a;");
        fault(3, BODY + "s(@)<=a;");
        fault(3, BODY + "s:@;");
        fault(3, BODY + "s:t@:u<=a;");
        fault(3, BODY + "s:@<=a;");
        fault(3, BODY + "s:@case");
        fault(3, BODY + "s<=@;");
        fault(3, BODY + "s<=reject @-1 ns inertial a;");
        fault(3, BODY + "s<=reject 1 ns @a;");
        fault(3, BODY + "s<=reject 1 ns @transport a;");
        fault(3, BODY + "s<=transport @inertial a;");
        fault(3, BODY + "s<=a after 1@;");
        fault(3, BODY + "s<=a after 1 @ms;");
        fault(3, BODY + "s<=a after 1 @number;");
        fault(3, BODY + "s<=a after 1 @event;");
        fault(3, BODY + "s<=a after 1 @13;");
        fault(3, BODY + "s<=a after 1@+1 ns;");
        fault(3, BODY + "s<=a after @not b ns;");
        fault(3, BODY + "s<=a after 1 ns @after 1 ns;");
        fault(3, BODY + "s<=a,@;");
        fault(3, BODY + "s<=a when b@;");
        fault(3, BODY + "s<=a when b else @inertial c;");
        fault(3, BODY + "s<=a when b else c @else d;");
        fault(3, BODY + "s:unit @;");
        fault(3, BODY + "s:unit m@(a=>1);");
        fault(3, BODY + "s:unit m generic@(a=>1);");
        fault(3, BODY + "s:unit m generic map(@);");
        fault(3, BODY + "s:unit m generic map(@1);");
        fault(3, BODY + "s:unit m generic map(a@);");
        fault(3, BODY + "s:unit m generic map(a=>@);");
        fault(3, BODY + "s:unit m generic map(a=>open@+1);");
        fault(3, BODY + "s:unit m generic map(a=>1@;");
        fault(3, BODY + "s:unit m port map(a=>1) @generic map(a=>1);");
        fault(3, BODY + "s:for @1");
        fault(3, BODY + "s:for i in 1 @downto 2");
        fault(3, BODY + "s:for i in 1 to 2 @loop");
        fault(3, BODY + "s:if a @then");
        fault(3, BODY + "s:if a generate @null;");
        fault(3, BODY + "s:if a generate end@;");
        fault(3, BODY + "s:if a generate end @if;");
        fault(3, BODY + "s:if a generate @else");
    }

    private static void processes() {
        fault(3, BODY + "process@;");
        fault(3, BODY + "process(@)");
        fault(3, BODY + "process(a,@)");
        fault(3, BODY + "process(a@(1))");
        fault(3, BODY + "process(a@;b)");
        fault(3, BODY + "process is @is");
        fault(3, BODY + "process @signal s:logic; begin");
        fault(3, BODY + "process @type t is(a); begin");
        fault(3, BODY + "process @subtype t is a; begin");
        fault(3, BODY + "process is variable v:logic; @is begin");
        fault(3, BODY + "process begin end@;");
        fault(3, BODY + "process begin end @body;");
        fault(3, BODY + "process begin @process");
        fault(3, BODY + "process begin end process @p;");
        fault(3, BODY + "p:process begin end process; q:process begin end process; process begin end process @p;");
    }

    private static void statements() {
        fault(3, PROCESS + "@;");
        fault(3, PROCESS + "@variable v:logic;");
        fault(3, PROCESS + "a@;");
        fault(3, PROCESS + "a@:s<=b;");
        fault(3, PROCESS + "a@=b;");
        fault(3, PROCESS + "a(1@,2):=b;");
        fault(3, PROCESS + "a:=@transport b;");
        fault(3, PROCESS + "a:=b@,c;");
        fault(3, PROCESS + "a:=b @after 1 ns;");
        fault(3, PROCESS + "a<=b @when c else d;");
        fault(3, PROCESS + "if a @loop");
        fault(3, PROCESS + "if @then");
        fault(3, PROCESS + "if a then else @elsif b then end if;");
        fault(3, PROCESS + "if a then else @else end if;");
        fault(3, PROCESS + "if a then end@;");
        fault(3, PROCESS + "if a then end @loop;");
        fault(3, PROCESS + "if a then end if @a;");
        fault(3, PROCESS + "case a is @end case;");
        fault(3, PROCESS + "case a is @null;");
        fault(3, PROCESS + "case a @when");
        fault(3, PROCESS + "case a is when @=>");
        fault(3, PROCESS + "case a is when 1@,2=>");
        fault(3, PROCESS + "case a is when others@+1=>");
        fault(3, PROCESS + "case a is when 1|@=>");
        fault(3, PROCESS + "case a is when 1=>end @if;");
        fault(3, PROCESS + "for i in 1@;");
        fault(3, PROCESS + "for i @1 to 2 loop");
        fault(3, PROCESS + "for i in 1 to 2 @generate");
        fault(3, PROCESS + "for i in a@;");
        fault(3, PROCESS + "while @loop");
        fault(3, PROCESS + "while a @then");
        fault(3, PROCESS + "loop end @process;");
        fault(3, PROCESS + "loop end loop @l;");
        fault(3, PROCESS + "exit @a;");
        fault(3, PROCESS + "exit when@;");
        fault(3, PROCESS + "next @if a;");
        fault(3, PROCESS + "wait @a;");
        fault(3, PROCESS + "wait on@;");
        fault(3, PROCESS + "wait on a@(1);");
        fault(3, PROCESS + "wait until a @on b;");
        fault(3, PROCESS + "wait for 1 ns @until a;");
        fault(3, PROCESS + "wait for 1@;");
        fault(3, PROCESS + "null@:=1;");
        fault(3, PROCESS + "report@;");
        fault(3, PROCESS + "assert a@;");
        fault(3, PROCESS + "assert a report b @report c;");
    }

    private static void namesBehindEnd() {
        fault(6, "unit a is end @b;");
        fault(6, "unit a is end unit @integer;");
        fault(6, "body b of a is begin end @a;");
        fault(6, "body b of a is begin end body @a;");
        fault(6, BODY + "p:process begin end process @b;");
        fault(6, BODY + "g:if a generate end generate @a;");
        fault(6, BODY + "g:for i in 1 to 2 generate end generate @i;");
        fault(6, BODY + "g:if a generate h:if a generate end generate @g;");
        fault(6, BODY + "g:if a generate h:if a generate end generate h; end generate @h;");
        fault(6, "unit a is end unit @aa;");
    }

    private static void open() {
        for (int n = 38; n <= 42; n++) {
            nested(n, PROCESS + "a:=", "@(", "1", ")", ";end process;end;");
            nested(n, PROCESS + "a:=", "a@(", "1", ")", ";end process;end;");
            nested(n, PROCESS + "a:=", "a@(1,", "1", ")", ";end process;end;");
            nested(n, PROCESS + "a:=", "a@(1 to-not", "1", ")", ";end process;end;");
            nested(n, PROCESS, "a@(", "1", ")", ":=1;end process;end;");
            nested(n, PROCESS, "a@(1 downto ", "1", ")", "<=1;end process;end;");
            nested(n, BODY, "a@(", "1", ")", "<=1;end;");
            nested(n, PROCESS, "@if a then ", "", "end if;", "end process;end;");
            nested(n, PROCESS, "@if a then elsif a then ", "", "end if;", "end process;end;");
            nested(n, PROCESS, "@if a then else ", "", "end if;", "end process;end;");
            nested(n, PROCESS, "@case a is when 1=>", "", "end case;", "end process;end;");
            nested(n, PROCESS, "@for i in 1 to 2 loop ", "", "end loop;", "end process;end;");
            nested(n, PROCESS, "@while a loop ", "", "end loop;", "end process;end;");
            nested(n, PROCESS, "@loop ", "", "end loop;", "end process;end;");
            nested(n, BODY, "g:@for i in 1 to 2 generate ", "", "end generate;", "end;");
            nested(n, BODY, "g:@if a generate ", "", "end generate g;", "end;");
        }
        // What is closed is open no longer, also behind many of its kind.
        String[] statements = {"a(1):=(1);", "a:=b(1,2)+(3)+c(4 to 5);", "if a then end if;", "case a is when 1=>end case;",
            "for i in 1 to 2 loop end loop;", "while a loop end loop;", "loop end loop;", "wait for(1)ns;"};
        for (String statement : statements) {
            Check.same("often " + statement, Check.of(PROCESS + statement.repeat(60) + "end process;end;").read(), 0);
        }
        String[] concurrents = {"a(1)<=(1);", "g:if a generate end generate;", "g:for i in 1 to 2 generate end generate g;"};
        for (String concurrent : concurrents) {
            Check.same("often " + concurrent, Check.of(BODY + concurrent.repeat(60) + "end;").read(), 0);
        }
        // Those of all kinds are counted together, and no longer when they are closed.
        String ten = "g:if(a)generate g:for i in(1)to(2)generate ".repeat(5);
        String twenty = "if(a)then case(a)is when(1)=>for i in(1)to(2)loop while(a)loop ".repeat(5);
        String begin = BODY + ten + "process begin " + twenty;
        fault(5, begin + "loop a(b):=(((((((((@(1))))))))));");
        fault(5, begin + "loop a(((((((((@(1))))))))));");
        fault(5, begin + "loop ".repeat(10) + "@loop ");
        fault(5, begin + "loop ".repeat(10) + "wait on a until b for 1 ns; a:=b; @if a then");
        fault(5, begin + "loop ".repeat(10) + "end loop; loop null; a@(1):=1;");
        fault(5, begin + "loop ".repeat(10) + "wait for @(1) ns;");
        fault(5, begin + "loop ".repeat(10) + "a<=reject @(1) ns");
        fault(3, begin + "loop ".repeat(10) + "@(1)");
        fault(3, begin + "loop ".repeat(10) + "a:=1@(1)");
        // What opens nothing may stand there with forty open.
        String forty = "g:if a generate ".repeat(40);
        SourceTree x = Check.of(BODY + forty + "l:unit m generic map(a=>1)port map(b=>open);p:process(a,b)is constant"
            + " c:row(1 to 2):=1;begin wait for 1 ns;end process;" + "end generate;".repeat(40) + "end;");
        Check.same("with forty open", x.read(), 0);
    }

    /** n of them one in the other; the 41st opens one too many, where '@' stands in it. */
    private static void nested(int n, String begin, String marked, String inner, String closing, String end) {
        String opening = marked.replace("@", "");
        SourceTree x = Check.of(begin + opening.repeat(n) + inner + closing.repeat(n) + end);
        int place = n <= 40 ? -1 : begin.length() + 40 * opening.length() + marked.indexOf('@');
        Check.same(n + " times " + opening, x.read(), n <= 40 ? 0 : 5);
        Check.same("place of " + n + " times " + opening, x.place(), place);
    }

    private static void firstFaultOnly() {
        fault(3, "unit a is @1 \" 99999999999");
        fault(1, "unit a is @\" 1");
        fault(2, "unit a is @99999999999 1 _");
        fault(1, "unit a is end; @! unit");
        fault(6, "unit a is end @b b _");
        fault(1, "unit a is end @_b;");
    }

    private static void fault(int due, String marked) {
        int place = marked.indexOf('@');
        String text = marked.substring(0, place) + marked.substring(place + 1);
        Check.same(text, Check.told(Check.of(text)), "fault " + due + " at " + place);
    }
}
