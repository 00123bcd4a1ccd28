import java.util.ArrayList;
import java.util.HashSet;
import java.util.List;
import java.util.Locale;
import java.util.Set;

/**
 * Fault 3: behind every beginning of many sources, every kind of token is tried, and is a fault
 * there if and only if the document's grammar cannot go on with it.
 */
public final class ViableTest {
    private static final String[] WORDS = ("ABS AFTER AND ASSERT BEGIN BODY CASE CONSTANT DOWNTO ELSE ELSIF END EXIT FOR"
        + " GENERATE GENERIC IF IN INERTIAL INOUT IS LOOP MAP MOD NAND NEXT NOR NOT NULL OF ON OPEN OR OTHERS OUT PORT"
        + " PROCESS RANGE REJECT REM REPORT SIGNAL SLL SRL SUBTYPE THEN TO TRANSPORT TYPE UNIT UNTIL VARIABLE WAIT WHEN"
        + " WHILE XNOR XOR").split(" ");
    private static final String[] MARKS = "( ) , ; : := <= => = /= < > >= + - * / & ' |".split(" ");
    private static final String[] OTHERS = {"new_name", "integer", "row", "ps", "ns", "us", "7", "'1'", "\"01\""};
    private static final int SOURCES = 60;

    private static final Set<String> WORD_SET = new HashSet<>(List.of(WORDS));

    public static void main(String[] args) {
        everyToken(SAMPLE);
        for (int seed = 0; seed < SOURCES; seed++) {
            RandomSource source = new RandomSource(10000 + seed, 25);
            source.file();
            everyToken(tokensOf(source));
        }
        Check.end();
    }

    // Every rule with most of what may be left out of it.
    private static final List<String> SAMPLE = List.of(("unit a is generic ( g , h : row ( 1 to 2 ) := f ( 1 , 2 sll 3 ) ;"
        + " k : natural ) ; port ( p : in logic := '1' ; q : inout integer range - 1 to abs 2 ) ; end unit a ; body b of a is"
        + " signal s : integer range 1 to 2 := 3 ; type t is ( u , v ) ; subtype w is row ( 1 downto 0 ) ; constant c : t := u ;"
        + " begin l : process ( s , p ) is variable x : t ; constant y : t := u ; begin if s = 1 and not p then x := u ; elsif x"
        + " ' last nand y then else s ( 1 ) <= reject 1 ns inertial 2 after 3 ns , 4 ; end if ; case x is when u | v => null ;"
        + " when others => exit when p ; end case ; for i in 1 downto 2 loop wait on s , p until p for 1 ns ; end loop ; while"
        + " p loop next ; end loop ; loop report s ; assert p report s & \"01\" ; end loop ; s ( 1 to 2 ) := ( 1 + 2 ) * 3 mod 4"
        + " ; end process l ; m : unit a generic map ( g => 1 , h => open ) port map ( p => p ) ; n : for i in 1 to 2 generate o"
        + " : if p generate s <= transport 1 when p else 2 after 1 us when q else 3 ; z : process begin end process ; end generate"
        + " o ; end generate ; s ( 2 downto 1 ) <= a xor b xor c ; process begin end process ; end body b ; unit c is end ;")
        .split(" "));

    private static List<String> tokensOf(RandomSource source) {
        List<String> tokens = new ArrayList<>();
        String text = source.text.toString();
        for (int k = 0; k < source.places.size(); k++) {
            int end = k + 1 < source.places.size() ? source.places.get(k + 1) : text.length();
            String token = text.substring(source.places.get(k), end);
            int comment = token.startsWith("'-'") || token.startsWith("\"") ? -1 : token.indexOf("--");
            if (comment >= 0) {
                token = token.substring(0, comment);
            } else if (token.startsWith("\"")) {
                token = token.substring(0, token.indexOf('"', 1) + 1);
            } else if (token.startsWith("'-'")) {
                token = "'-'";
            }
            tokens.add(token.trim().split("\\s")[0]);
        }
        return tokens;
    }

    /** Of what kind the grammar takes a token. */
    private static String kindOf(String token) {
        String great = token.toUpperCase(Locale.ROOT);
        String small = token.toLowerCase(Locale.ROOT);
        char first = token.charAt(0);
        if (WORD_SET.contains(great)) {
            return great;
        }
        if (Character.isLetter(first)) {
            return List.of("integer", "row", "ps", "ns", "us").contains(small) ? small : "n";
        }
        if (Character.isDigit(first)) {
            return "number";
        }
        return first == '"' ? "bits" : first == '\'' && token.length() > 1 ? "sign" : "'" + token + "'";
    }

    private static void everyToken(List<String> tokens) {
        Viable viable = new Viable();
        EndNames names = new EndNames();
        StringBuilder text = new StringBuilder();
        for (int k = 0; k <= tokens.size(); k++) {
            Set<String> next = viable.next();
            ending(text.toString(), next.contains(Viable.END_OF_TEXT));
            tryAll(WORDS, text.toString(), next, names);
            tryAll(MARKS, text.toString(), next, names);
            tryAll(OTHERS, text.toString(), next, names);
            if (k < tokens.size()) {
                viable.take(kindOf(tokens.get(k)));
                names.take(tokens.get(k).toLowerCase(Locale.ROOT));
                text.append(tokens.get(k)).append(' ');
            }
        }
    }

    private static void ending(String text, boolean mayEnd) {
        Check.same(text, Check.read(Check.of(text)), mayEnd ? "0 at -1" : "3 at " + text.length());
    }

    private static void tryAll(String[] tokens, String before, Set<String> next, EndNames names) {
        for (String token : tokens) {
            String text = before + token;
            String kind = kindOf(token);
            String due = "3 at " + before.length();
            if (next.contains(kind)) {
                // It can stand there; if it is a name behind END it is another one.
                boolean other = Character.isLetter(token.charAt(0)) && !WORD_SET.contains(kind) && names.refuse(token);
                due = other ? "6 at " + before.length() : "3 at " + text.length();
            }
            String got = Check.read(Check.of(text));
            if (got.equals("0 at -1") && token.equals(";")) {
                // Only the ; of a unit or body may end the file.
                Check.same("ends " + text, names.endsFile() ? 1 : 0, 1);
            } else {
                Check.same(text, got, due);
            }
        }
    }

    /** Which name must stand behind END, told by the tokens before. */
    private static final class EndNames {
        private final List<String> open = new ArrayList<>();
        private String last = ";";
        private String before = ";";
        private String third = ";";
        private boolean ending = false;

        void take(String token) {
            boolean labelled = last.equals(":");
            if ((last.equals("unit") || last.equals("body")) && !before.equals(":") && !before.equals("end")) {
                open.add(token);
            } else if (token.equals("process") && !last.equals("end")) {
                open.add(labelled ? before : "");
            } else if (labelled && (token.equals("if") || token.equals("for"))) {
                open.add(before);
            }
            if (last.equals("end") && !List.of("if", "case", "loop").contains(token)) {
                ending = true;
            }
            if (ending && token.equals(";")) {
                open.remove(open.size() - 1);
                ending = false;
            }
            third = before;
            before = last;
            last = token;
        }

        boolean refuse(String name) {
            boolean behind = last.equals("end") || before.equals("end");
            return behind && !open.isEmpty() && !name.equals(open.get(open.size() - 1));
        }

        boolean endsFile() {
            boolean behind = last.equals("end") || before.equals("end") || third.equals("end");
            return behind && open.size() == 1;
        }
    }
}
