import java.util.ArrayList;
import java.util.HashMap;
import java.util.Random;

/** Writes a source by the grammar's rules, and what is due for it: nodes, names, and when they come. */
final class RandomSource {
    final StringBuilder text = new StringBuilder();
    final ArrayList<Integer> places = new ArrayList<>();
    /** Kind, value, children, and how many tokens were read when the node came. */
    final ArrayList<int[]> nodes = new ArrayList<>();
    final ArrayList<String> names = new ArrayList<>();
    /** How many tokens stand before each end that the file could have. */
    final ArrayList<Integer> ends = new ArrayList<>();

    private static final String SIGNS = "ux01zwlh-";
    private static final String[] POOL = {"a", "b", "c_1", "clk", "data", "x", "u1", "integer", "natural", "row", "ns",
        "ps", "us", "event", "last", "true", "ends", "if_1", "q", "low"};

    private final HashMap<String, Integer> numbers = new HashMap<>();
    private final Random random;
    private int room;
    private char last = ' ';
    private boolean behindName;

    RandomSource(long seed, int room) {
        random = new Random(seed);
        this.room = room;
        String[] first = ("integer natural positive boolean logic row true false rising falling number bits"
            + " ps ns us event active last length left right high low").split(" ");
        for (String name : first) {
            numberOf(name);
        }
    }

    /** A body of that many nodes, six at least. */
    static String filler(int count) {
        int great = Math.max(0, (count - 6) / 67);
        int small = count - 5 - 67 * great;
        StringBuilder s = new StringBuilder("body f of f is type t is(f").append(",f".repeat(small - 1)).append(");");
        if (great > 0) {
            s.append("signal f").append(",f".repeat(great - 1)).append(":f:=\"").append("0".repeat(64)).append("\";");
        }
        return s.append("begin end; ").toString();
    }

    void file() {
        int count = 1 + random.nextInt(3);
        for (int i = 0; i < count; i++) {
            if (random.nextBoolean()) {
                unit();
            } else {
                body();
            }
            ends.add(places.size());
        }
        node(74, 0, count);
        separator(true);
    }

    private int numberOf(String name) {
        if (!numbers.containsKey(name)) {
            numbers.put(name, names.size());
            names.add(name);
        }
        return numbers.get(name);
    }

    private boolean chance(int percent) {
        return random.nextInt(100) < percent;
    }

    /** Whether something may still be written that may be left out. */
    private boolean more(int percent) {
        room--;
        return room > 0 && chance(percent);
    }

    private void separator(boolean mayBeNone) {
        int blanks = random.nextInt(4);
        if (blanks == 0 && !mayBeNone) {
            blanks = 1;
        }
        for (int i = 0; i < blanks; i++) {
            text.append(" \t\n".charAt(random.nextInt(3)));
            last = ' ';
        }
        if (chance(4) && last != '-') {
            text.append("--").append(chance(50) ? " '1' \"0\" end;" : "-").append('\n');
            last = '\n';
        }
    }

    private void token(String token) {
        char first = token.charAt(0);
        boolean together = Character.isLetterOrDigit(last) && Character.isLetterOrDigit(first)
            && !(Character.isDigit(last) && !behindName && Character.isLetter(first));
        boolean quoted = first == '\'' && token.length() > 1 && behindName;
        separator(!together && !quoted);
        places.add(text.length());
        StringBuilder written = new StringBuilder();
        for (char c : token.toCharArray()) {
            written.append(chance(30) ? Character.toUpperCase(c) : c);
        }
        text.append(written);
        last = token.charAt(token.length() - 1);
        behindName = Character.isLetter(first);
    }

    private void tokens(String spaced) {
        for (String token : spaced.split(" ")) {
            token(token);
        }
    }

    private void node(int kind, int value, int children) {
        nodes.add(new int[] {kind, value, children, places.size()});
    }

    private int name() {
        String name = chance(15) ? "n" + random.nextInt(40) : POOL[random.nextInt(POOL.length)];
        return nameToken(name);
    }

    private int nameToken(String name) {
        token(name);
        return numberOf(name);
    }

    private void nameNode() {
        node(1, name(), 0);
    }

    private void nameBehindEnd(int n) {
        if (chance(50)) {
            nameToken(names.get(n));
        }
    }

    private void unit() {
        token("unit");
        int n = name();
        token("is");
        for (int part = 0; part < 2; part++) {
            int count = 0;
            boolean there = more(60);
            if (there) {
                tokens(part == 0 ? "generic (" : "port (");
                do {
                    if (count > 0) {
                        token(";");
                    }
                    count += interfaceObjects(part);
                } while (more(50));
            }
            node(48, 0, count);
            if (there) {
                tokens(") ;");
            }
        }
        token("end");
        if (chance(50)) {
            token("unit");
        }
        nameBehindEnd(n);
        token(";");
        node(70, n, 2);
    }

    private int interfaceObjects(int part) {
        ArrayList<Integer> declared = declaredNames();
        int from = nodes.size();
        if (part == 1) {
            int direction = random.nextInt(3);
            token(new String[] {"in", "out", "inout"}[direction]);
            node(2, direction, 0);
        }
        type();
        expressionBehind(":=");
        return declaredNodes(declared, from, 71 + part, 2 + part);
    }

    private ArrayList<Integer> declaredNames() {
        ArrayList<Integer> declared = new ArrayList<>();
        declared.add(name());
        while (more(30)) {
            token(",");
            declared.add(name());
        }
        token(":");
        return declared;
    }

    private int declaredNodes(ArrayList<Integer> declared, int from, int kind, int children) {
        int to = nodes.size();
        for (int k = 0; k < declared.size(); k++) {
            for (int i = from; k > 0 && i < to; i++) {
                int[] node = nodes.get(i);
                node(node[0], node[1], node[2]);
            }
            node(kind, declared.get(k), children);
        }
        return declared.size();
    }

    private void expressionBehind(String token) {
        if (more(40)) {
            token(token);
            expression();
        } else {
            node(0, 0, 0);
        }
    }

    private void type() {
        switch (random.nextInt(4)) {
            case 0:
                nameToken("integer");
                token("range");
                expression();
                token("to");
                expression();
                node(11, 0, 2);
                break;
            case 1:
                nameToken("row");
                token("(");
                expression();
                boolean down = chance(50);
                token(down ? "downto" : "to");
                expression();
                token(")");
                node(down ? 13 : 12, 5, 2);
                break;
            default:
                node(10, nameToken(chance(50) ? "integer" : "clk"), 0);
                break;
        }
    }

    private void body() {
        token("body");
        int n = name();
        token("of");
        nameNode();
        token("is");
        declarations(false);
        token("begin");
        concurrents();
        token("end");
        if (chance(50)) {
            token("body");
        }
        nameBehindEnd(n);
        token(";");
        node(73, n, 3);
    }

    private void declarations(boolean inProcess) {
        int count = 0;
        while (more(60)) {
            count += declaration(inProcess);
        }
        node(48, 0, count);
    }

    private int declaration(boolean inProcess) {
        int which = random.nextInt(inProcess ? 2 : 4);
        if (which == 2) {
            token("type");
            int n = name();
            tokens("is (");
            int count = 1;
            nameNode();
            for (; more(60); count++) {
                token(",");
                nameNode();
            }
            tokens(") ;");
            node(53, n, count);
            return 1;
        }
        if (which == 3) {
            token("subtype");
            int n = name();
            token("is");
            type();
            token(";");
            node(54, n, 1);
            return 1;
        }
        token(which == 0 ? "constant" : inProcess ? "variable" : "signal");
        ArrayList<Integer> declared = declaredNames();
        int from = nodes.size();
        type();
        if (which == 0) {
            token(":=");
            expression();
        } else {
            expressionBehind(":=");
        }
        token(";");
        return declaredNodes(declared, from, which == 0 ? 51 : inProcess ? 52 : 50, 2);
    }

    private void concurrents() {
        int count = 0;
        for (; more(65); count++) {
            concurrent();
        }
        node(48, 0, count);
    }

    private void concurrent() {
        int which = random.nextInt(8);
        int n = -1;
        if (which >= 4 || chance(50)) {
            n = name();
            token(":");
        }
        if (which < 2) {
            process(n);
        } else if (which < 4) {
            concurrentAssignment();
        } else if (which < 6) {
            instance(n);
        } else {
            generate(n, which == 6);
        }
    }

    private void process(int n) {
        token("process");
        if (more(50)) {
            token("(");
            nameList();
            token(")");
        } else {
            node(0, 0, 0);
        }
        if (chance(50)) {
            token("is");
        }
        declarations(true);
        token("begin");
        statements();
        tokens("end process");
        if (n >= 0) {
            nameBehindEnd(n);
        }
        token(";");
        node(60, n, 3);
    }

    private void nameList() {
        int count = 1;
        nameNode();
        for (; more(50); count++) {
            token(",");
            nameNode();
        }
        node(48, 0, count);
    }

    private void concurrentAssignment() {
        target();
        token("<=");
        int mode = random.nextInt(3);
        if (mode < 2) {
            node(0, 0, 0);
        }
        mode(mode);
        elements(true);
        int children = 3;
        for (; more(40); children += 2) {
            token("when");
            expression();
            token("else");
            elements(true);
        }
        token(";");
        node(61, mode, children);
    }

    private void mode(int mode) {
        if (mode == 0 && chance(40)) {
            token("inertial");
        } else if (mode == 1) {
            token("transport");
        } else if (mode == 2) {
            token("reject");
            time();
            token("inertial");
        }
    }

    private int elements(boolean listed) {
        int count = 0;
        do {
            if (count > 0) {
                token(",");
            }
            expression();
            if (more(40)) {
                token("after");
                time();
            } else {
                node(0, 0, 0);
            }
            node(31, 0, 2);
            count++;
        } while (more(30));
        if (listed) {
            node(48, 0, count);
        }
        return count;
    }

    private void time() {
        primary();
        int which = random.nextInt(3);
        nameToken(new String[] {"ps", "ns", "us"}[which]);
        node(32, 12 + which, 1);
    }

    private void instance(int n) {
        token("unit");
        nameNode();
        for (int part = 0; part < 2; part++) {
            int count = 0;
            boolean there = more(50);
            if (there) {
                tokens(part == 0 ? "generic map (" : "port map (");
                do {
                    if (count > 0) {
                        token(",");
                    }
                    map();
                    count++;
                } while (more(40));
            }
            node(48, 0, count);
            if (there) {
                token(")");
            }
        }
        token(";");
        node(62, n, 3);
    }

    private void map() {
        int m = name();
        token("=>");
        if (chance(30)) {
            node(0, 0, 0);
            token("open");
        } else {
            expression();
        }
        node(63, m, 1);
    }

    private void generate(int n, boolean counted) {
        if (counted) {
            token("for");
            nameNode();
            token("in");
            expression();
            token("to");
        } else {
            token("if");
        }
        expression();
        token("generate");
        concurrents();
        tokens("end generate");
        nameBehindEnd(n);
        token(";");
        node(counted ? 64 : 65, n, counted ? 4 : 2);
    }

    private void statements() {
        int count = 0;
        for (; more(60); count++) {
            statement();
        }
        node(48, 0, count);
    }

    private void statement() {
        switch (random.nextInt(9)) {
            case 0:
                target();
                token("<=");
                int mode = random.nextInt(3);
                mode(mode);
                int count = elements(false);
                token(";");
                node(30, mode, count + (mode == 2 ? 2 : 1));
                break;
            case 1:
                target();
                token(":=");
                expression();
                token(";");
                node(33, 0, 2);
                break;
            case 2:
                ifStatement();
                break;
            case 3:
                caseStatement();
                break;
            case 4:
                loop();
                break;
            case 5:
                boolean exit = chance(50);
                token(exit ? "exit" : "next");
                expressionBehind("when");
                token(";");
                node(exit ? 42 : 43, 0, 1);
                break;
            case 6:
                waiting();
                break;
            case 7:
                tokens("null ;");
                node(45, 0, 0);
                break;
            default:
                boolean asserted = chance(50);
                if (asserted) {
                    token("assert");
                    expression();
                }
                token("report");
                expression();
                token(";");
                node(asserted ? 47 : 46, 0, asserted ? 2 : 1);
                break;
        }
    }

    private void ifStatement() {
        token("if");
        int children = 1;
        do {
            if (children > 1) {
                token("elsif");
            }
            expression();
            token("then");
            statements();
            children += 2;
        } while (more(30));
        if (more(40)) {
            token("else");
            statements();
        } else {
            node(48, 0, 0);
        }
        tokens("end if ;");
        node(34, 0, children);
    }

    private void caseStatement() {
        token("case");
        expression();
        token("is");
        int children = 1;
        do {
            token("when");
            int choices = 0;
            do {
                if (choices > 0) {
                    token("|");
                }
                choices++;
                if (chance(25)) {
                    token("others");
                    node(37, 0, 0);
                } else {
                    expression();
                }
            } while (more(30));
            node(48, 0, choices);
            token("=>");
            statements();
            node(36, 0, 2);
            children++;
        } while (more(40));
        tokens("end case ;");
        node(35, 0, children);
    }

    private void loop() {
        int kind = 38 + random.nextInt(4);
        int n = 0;
        if (kind < 40) {
            token("for");
            n = name();
            token("in");
            expression();
            token(kind == 38 ? "to" : "downto");
            expression();
        } else if (kind == 40) {
            token("while");
            expression();
        }
        token("loop");
        statements();
        tokens("end loop ;");
        node(kind, n, kind < 40 ? 3 : kind == 40 ? 2 : 1);
    }

    private void waiting() {
        token("wait");
        if (more(40)) {
            token("on");
            nameList();
        } else {
            node(48, 0, 0);
        }
        expressionBehind("until");
        if (more(40)) {
            token("for");
            time();
        } else {
            node(0, 0, 0);
        }
        token(";");
        node(44, 0, 3);
    }

    private void target() {
        int n = name();
        if (more(30)) {
            behindParenthesis(n, false);
        } else {
            node(1, n, 0);
        }
    }

    private void behindParenthesis(int n, boolean several) {
        token("(");
        expression();
        int kind = 22 + random.nextInt(3);
        int children = 1;
        if (kind > 22) {
            token(kind == 23 ? "to" : "downto");
            expression();
            children = 2;
        } else {
            for (; several && more(30); children++) {
                token(",");
                expression();
            }
        }
        token(")");
        node(kind, n, children);
    }

    /** A method a level, other than the class under test has it. */
    private void expression() {
        relation();
        String[] words = {"and", "or", "nand", "nor", "xor", "xnor"};
        int which = random.nextInt(6);
        boolean often = which < 2 || which == 4;
        for (int k = 0; (k == 0 || often) && more(25); k++) {
            token(words[which]);
            relation();
            node(21, which, 2);
        }
    }

    private void relation() {
        shift();
        if (more(20)) {
            int which = random.nextInt(6);
            token(new String[] {"=", "/=", "<", "<=", ">", ">="}[which]);
            shift();
            node(21, 6 + which, 2);
        }
    }

    private void shift() {
        sum();
        if (more(10)) {
            boolean left = chance(50);
            token(left ? "sll" : "srl");
            sum();
            node(21, left ? 19 : 20, 2);
        }
    }

    private void sum() {
        int sign = random.nextInt(10);
        if (sign < 2) {
            token(sign == 0 ? "-" : "+");
        }
        term();
        if (sign < 2) {
            node(20, sign + 1, 1);
        }
        while (more(20)) {
            int which = random.nextInt(3);
            token(new String[] {"+", "-", "&"}[which]);
            term();
            node(21, 12 + which, 2);
        }
    }

    private void term() {
        factor();
        while (more(20)) {
            int which = random.nextInt(4);
            token(new String[] {"*", "/", "mod", "rem"}[which]);
            factor();
            node(21, 15 + which, 2);
        }
    }

    private void factor() {
        int which = random.nextInt(12);
        if (which < 2) {
            token(which == 0 ? "not" : "abs");
        }
        primary();
        if (which < 2) {
            node(20, which == 0 ? 0 : 3, 1);
        }
    }

    private void primary() {
        switch (random.nextInt(room > 0 ? 8 : 4)) {
            case 0:
                int number = chance(20) ? Integer.MAX_VALUE - random.nextInt(3) : random.nextInt(20);
                token("0".repeat(chance(10) ? 12 : 0) + number);
                node(2, number, 0);
                break;
            case 1:
                int sign = random.nextInt(9);
                token("'" + SIGNS.charAt(sign) + "'");
                node(3, sign, 0);
                break;
            case 2:
                rowOfSigns();
                break;
            case 3:
                node(1, name(), 0);
                break;
            case 4:
                token("(");
                expression();
                token(")");
                break;
            case 5:
                int n = name();
                token("'");
                nameNode();
                node(25, n, 1);
                break;
            default:
                behindParenthesis(name(), true);
                break;
        }
    }

    private void rowOfSigns() {
        int count = chance(10) ? 64 : 1 + random.nextInt(4);
        StringBuilder row = new StringBuilder();
        int[] signs = new int[count];
        for (int i = 0; i < count; i++) {
            signs[i] = random.nextInt(9);
            row.append(SIGNS.charAt(signs[i]));
        }
        token("\"" + row + "\"");
        for (int sign : signs) {
            node(3, sign, 0);
        }
        node(4, 0, count);
    }
}
