/** The faults 3, 5 and 6 and their places; '@' marks where the fault is due. */
public final class FaultTest {
    private static final String BODY = "body b of a is begin ";
    private static final String PROCESS = BODY + "process begin ";

    public static void main(String[] args) {
        endOfText();
        files();
        units();
        declarations();
        expressions();
        concurrents();
        processes();
        statements();
        namesBehindEnd();
        open();
        openInsideOthers();
        opensNothing();
        firstFaultOnly();
        unitsOfTime();
        Check.end();
    }

    private static void endOfText() {
        Check.fault(3, "@");
        Check.fault(3, "   @");
        Check.fault(3, "-- nothing@");
        Check.fault(3, "\n\n@");
        Check.fault(3, "unit@");
        Check.fault(3, "unit a is end@");
        Check.fault(3, "unit a is end  -- ;@");
        Check.fault(3, "unit a is end; unit@");
        // Every beginning of a source that is none itself goes on, so that the fault is its end.
        String source = "unit a is generic(g,h:row(1 to 2):=f(1,2 sll 3)); port(p:in logic:='1'); end unit a;"
            + " body b of a is signal s:integer range 1 to 2; type t is(u,v); begin l:process(s,p)is"
            + " variable x:t; begin if s=1 and not p then x:=u; elsif x'last then else s<=reject 1 ns inertial 2"
            + " after 3 ns,4; end if; case x is when u|v=>null; when others=>exit when p; end case; for i in 1"
            + " downto 2 loop wait on s until p for 1 ns; end loop; while p loop next; end loop; loop report s;"
            + " assert p report s; end loop; end process l; m:unit a generic map(g=>1,h=>open)port map(p=>p);"
            + " n:for i in 1 to 2 generate o:if p generate s<=1 when p else 2; end generate o; end generate; end body b;";
        for (int end = 0; end <= source.length(); end++) {
            if (end == 0 || end == source.length() || " ;(),|".indexOf(source.charAt(end - 1)) >= 0) {
                String part = source.substring(0, end);
                boolean whole = end == source.length() || part.trim().endsWith("unit a;");
                SourceTree x = Check.of(part);
                Check.same("first " + end + " characters", x.read(), whole ? 0 : 3);
                Check.same("place of first " + end, x.place(), whole ? -1 : end);
            }
        }
    }

    private static void files() {
        Check.fault(3, "@a");
        Check.fault(3, "@;");
        Check.fault(3, "@end;");
        Check.fault(3, "unit a is end;@;");
        Check.fault(3, "unit a is end; @a");
        Check.fault(3, "unit a is end; unit b is end; @process");
    }

    private static void units() {
        Check.fault(3, "unit @is end;");
        Check.fault(3, "unit @1 is end;");
        Check.fault(3, "unit a @end;");
        Check.fault(3, "unit a is @begin end;");
        Check.fault(3, "unit a is end @body;");
        Check.fault(3, "unit a is end unit @unit;");
        Check.fault(3, "unit a is end a @unit;");
        Check.fault(3, "unit a is generic@;");
        Check.fault(3, "unit a is generic(@); end;");
        Check.fault(3, "unit a is generic(g@); end;");
        Check.fault(3, "unit a is generic(g,@:logic); end;");
        Check.fault(3, "unit a is generic(g:@); end;");
        Check.fault(3, "unit a is generic(g:@in logic); end;");
        Check.fault(3, "unit a is generic(g:logic@,h:logic); end;");
        Check.fault(3, "unit a is generic(g:logic;@); end;");
        Check.fault(3, "unit a is generic(g:logic) @end;");
        Check.fault(3, "unit a is generic(g:logic:=@); end;");
        Check.fault(3, "unit a is generic(g:logic); @generic(h:logic); end;");
        Check.fault(3, "unit a is port(p:in logic); @generic(h:logic); end;");
        Check.fault(3, "unit a is port(p:in logic); @port(h:in logic); end;");
        Check.fault(3, "unit a is port(p:@logic); end;");
        Check.fault(3, "unit a is port(p:in @out logic); end;");
        Check.fault(3, "unit a is port(p:in @1); end;");
        Check.fault(3, "unit a is port(p:in logic) @port");
    }

    private static void declarations() {
        Check.fault(3, "body b @is");
        Check.fault(3, "body b of @is");
        Check.fault(3, "body b of a @begin");
        Check.fault(3, "body b of a is @end;");
        Check.fault(3, "body b of a is @variable v:logic; begin end;");
        Check.fault(3, "body b of a is signal s@;");
        Check.fault(3, "body b of a is signal s:logic:=@;");
        Check.fault(3, "body b of a is constant c:logic@;");
        Check.fault(3, "body b of a is type t @(a);");
        Check.fault(3, "body b of a is type t is(@);");
        Check.fault(3, "body b of a is type t is(a,@);");
        Check.fault(3, "body b of a is type t is(@1);");
        Check.fault(3, "body b of a is type t@,u is(a);");
        Check.fault(3, "body b of a is subtype t@:logic;");
        Check.fault(3, "body b of a is subtype t is @(a);");
        Check.fault(3, "body b of a is subtype t is row@;");
        Check.fault(3, "body b of a is subtype t is row @range 1 to 2;");
        Check.fault(3, "body b of a is subtype t is row(1@);");
        Check.fault(3, "body b of a is subtype t is row(1@,2);");
        Check.fault(3, "body b of a is subtype t is row(1 to 2@,3);");
        Check.fault(3, "body b of a is subtype t is natural @range 1 to 2;");
        Check.fault(3, "body b of a is subtype t is logic@(1 to 2);");
        Check.fault(3, "body b of a is subtype t is integer@(1 to 2);");
        Check.fault(3, "body b of a is subtype t is integer range 1 @downto 2;");
        Check.fault(3, "body b of a is subtype t is integer range 1@;");
        Check.fault(3, "body b of a is begin end @unit;");
    }

    private static void expressions() {
        String[] ends = {"@", "a+@", "a @b", "a and b @or c", "a or b @and c", "a xor b @or c", "a nand b @nand c",
            "a nor b @nor c", "a xnor b @xnor c", "a nand b @and c", "a and b @nand c", "a and b and c @xor d",
            "a=b@=c", "a=b@/=c", "a<b@<c", "a<=b@>=c", "a and b=c@=d", "a sll b @sll c", "a srl b @sll c",
            "a=b sll c @srl d", "a sll b=c sll d@=e", "not @not a", "not @abs a", "not @-a", "abs @+a", "a*@-b",
            "a+@-b", "a&@+b", "- @-a", "+@-a", "a and @and b", "a mod @mod", "a(@)", "a(1@;", "a(1,@)",
            "a(1 to@)", "a(1 to 2@,3)", "a(1,2 @to 3)", "a(1,2 @downto 3)", "a(1 to 2 @to 3)", "a(1)@(2)",
            "a(1 downto 2)@(2)", "(@)", "(a@,b)", "(a@;", "(a @to b)", "1@(2)", "'1'@(2)", "a'@1", "a'b@(1)",
            "a'b@'c", "a(1)@'b", "(a)@'b", "@others", "@open", "@*a", "@&a", "@=a", "1 @ns", "@and", "a @not b"};
        for (String end : ends) {
            Check.fault(3, "unit u is generic(g:logic:=" + end + (end.indexOf("@;") >= 0 ? "" : "); end;"));
        }
    }

    private static void concurrents() {
        Check.fault(3, BODY + "@if a generate");
        Check.fault(3, BODY + "@for i in 1 to 2 generate");
        Check.fault(3, BODY + "@unit m;");
        Check.fault(3, BODY + "@null;");
        Check.fault(3, BODY + "s@;");
        Check.fault(3, BODY + "s@:=a;");
        Check.fault(3, BODY + "s@'b<=a;");
        Check.fault(3, BODY + "s(1@,2)<=a;");
        Check.fault(3, BODY + "s(@)<=a;");
        Check.fault(3, BODY + "s:@;");
        Check.fault(3, BODY + "s:t@:u<=a;");
        Check.fault(3, BODY + "s:@<=a;");
        Check.fault(3, BODY + "s:@case");
        Check.fault(3, BODY + "s<=@;");
        Check.fault(3, BODY + "s<=reject @-1 ns inertial a;");
        Check.fault(3, BODY + "s<=reject 1 ns @a;");
        Check.fault(3, BODY + "s<=reject 1 ns @transport a;");
        Check.fault(3, BODY + "s<=transport @inertial a;");
        Check.fault(3, BODY + "s<=a after 1@;");
        Check.fault(3, BODY + "s<=a after 1 @ms;");
        Check.fault(3, BODY + "s<=a after 1 @number;");
        Check.fault(3, BODY + "s<=a after 1 @event;");
        Check.fault(3, BODY + "s<=a after 1 @13;");
        Check.fault(3, BODY + "s<=a after 1@+1 ns;");
        Check.fault(3, BODY + "s<=a after @not b ns;");
        Check.fault(3, BODY + "s<=a after 1 ns @after 1 ns;");
        Check.fault(3, BODY + "s<=a,@;");
        Check.fault(3, BODY + "s<=a when b@;");
        Check.fault(3, BODY + "s<=a when b else @inertial c;");
        Check.fault(3, BODY + "s<=a when b else c @else d;");
        Check.fault(3, BODY + "s:unit @;");
        Check.fault(3, BODY + "s:unit m@(a=>1);");
        Check.fault(3, BODY + "s:unit m generic@(a=>1);");
        Check.fault(3, BODY + "s:unit m generic map(@);");
        Check.fault(3, BODY + "s:unit m generic map(@1);");
        Check.fault(3, BODY + "s:unit m generic map(a@);");
        Check.fault(3, BODY + "s:unit m generic map(a=>@);");
        Check.fault(3, BODY + "s:unit m generic map(a=>open@+1);");
        Check.fault(3, BODY + "s:unit m generic map(a=>1@;");
        Check.fault(3, BODY + "s:unit m port map(a=>1) @generic map(a=>1);");
        Check.fault(3, BODY + "s:for @1");
        Check.fault(3, BODY + "s:for i in 1 @downto 2");
        Check.fault(3, BODY + "s:for i in 1 to 2 @loop");
        Check.fault(3, BODY + "s:if a @then");
        Check.fault(3, BODY + "s:if a generate @null;");
        Check.fault(3, BODY + "s:if a generate end@;");
        Check.fault(3, BODY + "s:if a generate end @if;");
        Check.fault(3, BODY + "s:if a generate @else");
    }

    private static void processes() {
        Check.fault(3, BODY + "process@;");
        Check.fault(3, BODY + "process(@)");
        Check.fault(3, BODY + "process(a,@)");
        Check.fault(3, BODY + "process(a@(1))");
        Check.fault(3, BODY + "process(a@;b)");
        Check.fault(3, BODY + "process is @is");
        Check.fault(3, BODY + "process @signal s:logic; begin");
        Check.fault(3, BODY + "process @type t is(a); begin");
        Check.fault(3, BODY + "process @subtype t is a; begin");
        Check.fault(3, BODY + "process is variable v:logic; @is begin");
        Check.fault(3, BODY + "process begin end@;");
        Check.fault(3, BODY + "process begin end @body;");
        Check.fault(3, BODY + "process begin @process");
        Check.fault(3, BODY + "process begin end process @p;");
        Check.fault(3, BODY + "p:process begin end process; q:process begin end process; process begin end process @p;");
    }

    private static void statements() {
        Check.fault(3, PROCESS + "@;");
        Check.fault(3, PROCESS + "@variable v:logic;");
        Check.fault(3, PROCESS + "a@;");
        Check.fault(3, PROCESS + "a@:s<=b;");
        Check.fault(3, PROCESS + "a@=b;");
        Check.fault(3, PROCESS + "a(1@,2):=b;");
        Check.fault(3, PROCESS + "a:=@transport b;");
        Check.fault(3, PROCESS + "a:=b@,c;");
        Check.fault(3, PROCESS + "a:=b @after 1 ns;");
        Check.fault(3, PROCESS + "a<=b @when c else d;");
        Check.fault(3, PROCESS + "if a @loop");
        Check.fault(3, PROCESS + "if @then");
        Check.fault(3, PROCESS + "if a then else @elsif b then end if;");
        Check.fault(3, PROCESS + "if a then else @else end if;");
        Check.fault(3, PROCESS + "if a then end@;");
        Check.fault(3, PROCESS + "if a then end @loop;");
        Check.fault(3, PROCESS + "if a then end if @a;");
        Check.fault(3, PROCESS + "case a is @end case;");
        Check.fault(3, PROCESS + "case a is @null;");
        Check.fault(3, PROCESS + "case a @when");
        Check.fault(3, PROCESS + "case a is when @=>");
        Check.fault(3, PROCESS + "case a is when 1@,2=>");
        Check.fault(3, PROCESS + "case a is when others@+1=>");
        Check.fault(3, PROCESS + "case a is when 1|@=>");
        Check.fault(3, PROCESS + "case a is when 1=>end @if;");
        Check.fault(3, PROCESS + "for i in 1@;");
        Check.fault(3, PROCESS + "for i @1 to 2 loop");
        Check.fault(3, PROCESS + "for i in 1 to 2 @generate");
        Check.fault(3, PROCESS + "for i in a@;");
        Check.fault(3, PROCESS + "while @loop");
        Check.fault(3, PROCESS + "while a @then");
        Check.fault(3, PROCESS + "loop end @process;");
        Check.fault(3, PROCESS + "loop end loop @l;");
        Check.fault(3, PROCESS + "exit @a;");
        Check.fault(3, PROCESS + "exit when@;");
        Check.fault(3, PROCESS + "next @if a;");
        Check.fault(3, PROCESS + "wait @a;");
        Check.fault(3, PROCESS + "wait on@;");
        Check.fault(3, PROCESS + "wait on a@(1);");
        Check.fault(3, PROCESS + "wait until a @on b;");
        Check.fault(3, PROCESS + "wait for 1 ns @until a;");
        Check.fault(3, PROCESS + "wait for 1@;");
        Check.fault(3, PROCESS + "null@:=1;");
        Check.fault(3, PROCESS + "report@;");
        Check.fault(3, PROCESS + "assert a@;");
        Check.fault(3, PROCESS + "assert a report b @report c;");
    }

    private static void namesBehindEnd() {
        Check.fault(6, "unit a is end @b;");
        Check.fault(6, "unit a is end unit @integer;");
        Check.fault(6, "body b of a is begin end @a;");
        Check.fault(6, "body b of a is begin end body @a;");
        Check.fault(6, BODY + "p:process begin end process @b;");
        Check.fault(6, BODY + "g:if a generate end generate @a;");
        Check.fault(6, BODY + "g:for i in 1 to 2 generate end generate @i;");
        Check.fault(6, BODY + "g:if a generate h:if a generate end generate @g;");
        Check.fault(6, BODY + "g:if a generate h:if a generate end generate h; end generate @h;");
        Check.fault(6, "unit a is end unit @aa;");
    }

    private static void open() {
        for (int n = 38; n <= 42; n++) {
            nested(n, PROCESS + "a:=", "@(", "1", ")", ";end process;end;");
            nested(n, PROCESS + "a:=", "a@(", "1", ")", ";end process;end;");
            nested(n, PROCESS + "a:=", "a@(1,", "1", ")", ";end process;end;");
            nested(n, PROCESS + "a:=", "a@(1 to-not", "1", ")", ";end process;end;");
            nested(n, PROCESS, "a@(", "1", ")", ":=1;end process;end;");
            nested(n, PROCESS, "a@(1 downto ", "1", ")", "<=1;end process;end;");
            nested(n, BODY, "a@(", "1", ")", "<=1;end;");
            nested(n, PROCESS, "@if a then ", "", "end if;", "end process;end;");
            nested(n, PROCESS, "@if a then elsif a then ", "", "end if;", "end process;end;");
            nested(n, PROCESS, "@if a then else ", "", "end if;", "end process;end;");
            nested(n, PROCESS, "@case a is when 1=>", "", "end case;", "end process;end;");
            nested(n, PROCESS, "@for i in 1 to 2 loop ", "", "end loop;", "end process;end;");
            nested(n, PROCESS, "@while a loop ", "", "end loop;", "end process;end;");
            nested(n, PROCESS, "@loop ", "", "end loop;", "end process;end;");
            nested(n, BODY, "g:@for i in 1 to 2 generate ", "", "end generate;", "end;");
            nested(n, BODY, "g:@if a generate ", "", "end generate g;", "end;");
        }
        // What is closed is open no longer, also behind many of its kind.
        String[] statements = {"a(1):=(1);", "a:=b(1,2)+(3)+c(4 to 5);", "if a then end if;", "case a is when 1=>end case;",
            "for i in 1 to 2 loop end loop;", "while a loop end loop;", "loop end loop;", "wait for(1)ns;"};
        for (String statement : statements) {
            Check.same("often " + statement, Check.of(PROCESS + statement.repeat(60) + "end process;end;").read(), 0);
        }
        String[] concurrents = {"a(1)<=(1);", "g:if a generate end generate;", "g:for i in 1 to 2 generate end generate g;"};
        for (String concurrent : concurrents) {
            Check.same("often " + concurrent, Check.of(BODY + concurrent.repeat(60) + "end;").read(), 0);
        }
        // Those of all kinds are counted together, and no longer when they are closed.
        String ten = "g:if(a)generate g:for i in(1)to(2)generate ".repeat(5);
        String twenty = "if(a)then case(a)is when(1)=>for i in(1)to(2)loop while(a)loop ".repeat(5);
        String begin = BODY + ten + "process begin " + twenty;
        Check.fault(5, begin + "loop a(b):=(((((((((@(1))))))))));");
        Check.fault(5, begin + "loop a(((((((((@(1))))))))));");
        Check.fault(5, begin + "loop ".repeat(10) + "@loop ");
        Check.fault(5, begin + "loop ".repeat(10) + "wait on a until b for 1 ns; a:=b; @if a then");
        Check.fault(5, begin + "loop ".repeat(10) + "end loop; loop null; a@(1):=1;");
        Check.fault(5, begin + "loop ".repeat(10) + "wait for @(1) ns;");
        Check.fault(5, begin + "loop ".repeat(10) + "a<=reject @(1) ns");
        Check.fault(3, begin + "loop ".repeat(10) + "@(1)");
        Check.fault(3, begin + "loop ".repeat(10) + "a:=1@(1)");
        Check.fault(3, begin + "loop ".repeat(10) + "a:=@if");
        Check.fault(3, begin + "loop ".repeat(10) + "a:=@loop");
        Check.fault(3, begin + "loop ".repeat(10) + "null @case");
    }

    // "up to its ) ; .. up to its last ;": what one opens is open in all of its parts, and not behind.
    private static void openInsideOthers() {
        String deep = "(".repeat(39) + "@(1)" + ")".repeat(39);
        String fits = deep.replace("@(1)", "1");
        String[] statements = {"if # then end if;", "if 1 then elsif # then end if;", "if 1 then a:=#; end if;",
            "if 1 then else a:=#; end if;", "case # is when 1=>end case;", "case 1 is when #=>end case;",
            "case 1 is when 1=>a:=#; end case;", "case 1 is when others=>when 2|#=>end case;",
            "for i in # to 1 loop end loop;", "for i in 1 downto # loop end loop;", "for i in 1 to 2 loop a:=#; end loop;",
            "while # loop end loop;", "while 1 loop a:=#; end loop;", "loop a:=#; end loop;", "loop exit when #; end loop;",
            "a(#):=1;", "a(1 to #)<=1;", "a(# downto 1)<=1;", "a:=b(#);", "a:=b(1,#);", "a:=b(1 to #);", "a:=(#);",
            "loop wait for # ns; end loop;", "loop a<=reject # ns inertial 1 after 1 ns; end loop;",
            "loop a<=1 after # ns; end loop;"};
        for (String statement : statements) {
            Check.fault(5, PROCESS + statement.replace("#", deep));
            Check.good(PROCESS + statement.replace("#", fits) + "end process;end;");
            // Forty more behind it, where it is open no longer.
            Check.good(PROCESS + statement.replace("#", "1") + "a:=(" + fits + ");end process;end;");
            Check.fault(5, PROCESS + statement.replace("#", "1") + "a:=(" + deep);
        }
        String[] concurrents = {"g:if # generate end generate;", "g:if 1 generate a<=#; end generate;",
            "g:for i in # to 1 generate end generate;", "g:for i in 1 to # generate end generate g;",
            "g:for i in 1 to 2 generate a<=#; end generate;", "a(#)<=1;", "g:a(1 to #)<=1;",
            "g:if 1 generate a<=1 when # else 2; end generate;", "g:if 1 generate l:unit m port map(a=>#); end generate;"};
        for (String concurrent : concurrents) {
            Check.fault(5, BODY + concurrent.replace("#", deep));
            Check.good(BODY + concurrent.replace("#", fits) + "end;");
            Check.good(BODY + concurrent.replace("#", "1") + "a<=(" + fits + ");end;");
            Check.fault(5, BODY + concurrent.replace("#", "1") + "a<=(" + deep);
        }
    }

    // "no other ( and none of these words elsewhere"
    private static void opensNothing() {
        String forty = "g:if a generate ".repeat(40);
        String closing = "end generate;".repeat(40) + "end;";
        for (String inner : new String[] {"l:unit m generic map(a=>1);", "l:unit m port map(b=>open,c=>d);",
            "process(a,b)begin end process;", "process constant c:row(1 to 2):=1;begin end process;",
            "process variable v:row(2 downto 1);begin end process;", "process begin wait for 1 ns;end process;",
            "process begin wait on a until b for c us;end process;", "a<=1 when b else 2;", ""}) {
            Check.good(BODY + forty + inner + closing);
        }
        // Forty open by themselves, in what has a ( of another kind round it.
        String fits = "(".repeat(40) + "1" + ")".repeat(40);
        String deep = "(".repeat(40) + "@(1)";
        String[] sources = {"unit u is generic(g:logic:=#); end;", "unit u is port(p:in logic:=#); end;",
            "unit u is generic(g:row(# to 1)); end;", "unit u is port(p:out row(1 downto #)); end;",
            "unit u is generic(g:integer range # to 1); end;", "body b of a is signal s:row(1 to #); begin end;",
            BODY + "l:unit m generic map(a=>#);end;", BODY + "l:unit m port map(a=>1,b=>#);end;",
            BODY + "process variable v:row(# to 1):=1; begin end process;end;", PROCESS + "wait until #; end process;end;",
            PROCESS + "wait for # ns; end process;end;", PROCESS + "exit when #; report #; assert # report #; end process;end;"};
        for (String source : sources) {
            Check.good(source.replace("#", fits));
            Check.fault(5, source.substring(0, source.indexOf('#')) + deep);
        }
        // The LOOP behind FOR or WHILE opens nothing more, nor do the words behind END.
        String loops = "for i in 1 to 2 loop while a loop ".repeat(20);
        String mixed = "if a then case b is when 1=>".repeat(20);
        Check.good(PROCESS + loops + "null;" + "end loop;end loop;".repeat(20) + "end process;end;");
        Check.fault(5, PROCESS + loops + "@loop");
        Check.good(PROCESS + mixed + "null;" + "end case;end if;".repeat(20) + mixed + "end case;end if;".repeat(20)
            + "end process;end;");
        Check.fault(5, PROCESS + mixed + "@if");
    }

    /** n of them one in the other; the 41st opens one too many, where '@' stands in it. */
    private static void nested(int n, String begin, String marked, String inner, String closing, String end) {
        String opening = marked.replace("@", "");
        SourceTree x = Check.of(begin + opening.repeat(n) + inner + closing.repeat(n) + end);
        int place = n <= 40 ? -1 : begin.length() + 40 * opening.length() + marked.indexOf('@');
        Check.same(n + " times " + opening, x.read(), n <= 40 ? 0 : 5);
        Check.same("place of " + n + " times " + opening, x.place(), place);
    }

    private static void firstFaultOnly() {
        Check.fault(3, "unit a is @1 \" 99999999999");
        Check.fault(1, "unit a is @\" 1");
        Check.fault(2, "unit a is @99999999999 1 _");
        Check.fault(1, "unit a is end; @! unit");
        Check.fault(6, "unit a is end @b b _");
        Check.fault(1, "unit a is end @_b;");
        Check.fault(5, PROCESS + "loop ".repeat(40) + "@loop _");
        Check.fault(5, PROCESS + "a:=" + "(".repeat(40) + "@(2147483648");
        Check.fault(3, "@a_ unit");
        Check.fault(6, "unit a is end @b 2147483648");
        Check.fault(1, "@_ 2147483648");
        Check.fault(2, "@2147483648 _");
    }

    // "time: primary, and ps, ns or us"
    private static void unitsOfTime() {
        for (String name : Check.FIRST_NAMES) {
            boolean fits = name.equals("ps") || name.equals("ns") || name.equals("us");
            if (fits) {
                Check.good(PROCESS + "wait for 1 " + name + "; a<=reject 1 " + name.toUpperCase() + " inertial 1 after 2 "
                    + name + "; end process;end;");
            } else {
                Check.fault(3, PROCESS + "wait for 1 @" + name);
                Check.fault(3, PROCESS + "a<=reject 1 @" + name);
                Check.fault(3, BODY + "a<=1 after 1 @" + name);
            }
        }
        Check.fault(3, PROCESS + "wait for 1 @a;");
        Check.fault(3, PROCESS + "wait for ns@;");
    }
}
