import java.util.ArrayList;
import java.util.HashMap;
import java.util.HashSet;
import java.util.LinkedHashSet;
import java.util.List;
import java.util.Map;
import java.util.Set;

/**
 * The document's grammar as it is written there, and by Earley's way the tokens with which a source
 * can go on: another way to the place of fault 3 than that of the program.
 */
final class Viable {
    /** How the end of the text is told among the tokens. */
    static final String END_OF_TEXT = "end of text";

    // A name is told as n if it is none of the names that the grammar writes out.
    private static final String[] RULES = {
        "any: n | integer | row | ps | ns | us",
        "file: (unit | body) {unit | body}",
        "unit: UNIT any IS [GENERIC '(' generic {';' generic} ')' ';'] [PORT '(' port {';' port} ')' ';']"
            + " END [UNIT] [any] ';'",
        "generic: any {',' any} ':' type [':=' expr]",
        "port: any {',' any} ':' (IN | OUT | INOUT) type [':=' expr]",
        "body: BODY any OF any IS {declaration} BEGIN {concurrent} END [BODY] [any] ';'",
        "declaration: SIGNAL any {',' any} ':' type [':=' expr] ';' | constant"
            + " | TYPE any IS '(' any {',' any} ')' ';' | SUBTYPE any IS type ';'",
        "constant: CONSTANT any {',' any} ':' type ':=' expr ';'",
        "inprocess: constant | VARIABLE any {',' any} ':' type [':=' expr] ';'",
        "type: n | ps | ns | us | integer | integer RANGE expr TO expr | row '(' expr TO expr ')'"
            + " | row '(' expr DOWNTO expr ')'",
        "concurrent: process ';' | any ':' process [any] ';'"
            + " | [any ':'] target '<=' [mode] wave {WHEN expr ELSE wave} ';'"
            + " | any ':' UNIT any [GENERIC MAP '(' map {',' map} ')'] [PORT MAP '(' map {',' map} ')'] ';'"
            + " | any ':' FOR any IN expr TO expr GENERATE {concurrent} END GENERATE [any] ';'"
            + " | any ':' IF expr GENERATE {concurrent} END GENERATE [any] ';'",
        "map: any '=>' (expr | OPEN)",
        "process: PROCESS ['(' any {',' any} ')'] [IS] {inprocess} BEGIN {statement} END PROCESS",
        "mode: INERTIAL | TRANSPORT | REJECT time INERTIAL",
        "wave: expr [AFTER time] {',' expr [AFTER time]}",
        "time: primary (ps | ns | us)",
        "statement: target '<=' [mode] wave ';' | target ':=' expr ';'"
            + " | IF expr THEN {statement} {ELSIF expr THEN {statement}} [ELSE {statement}] END IF ';'"
            + " | CASE expr IS when {when} END CASE ';'"
            + " | FOR any IN expr (TO | DOWNTO) expr LOOP {statement} END LOOP ';'"
            + " | WHILE expr LOOP {statement} END LOOP ';' | LOOP {statement} END LOOP ';'"
            + " | EXIT [WHEN expr] ';' | NEXT [WHEN expr] ';'"
            + " | WAIT [ON any {',' any}] [UNTIL expr] [FOR time] ';' | NULL ';' | REPORT expr ';'"
            + " | ASSERT expr REPORT expr ';'",
        "when: WHEN choice {'|' choice} '=>' {statement}",
        "choice: expr | OTHERS",
        "target: any | any '(' expr ')' | any '(' expr TO expr ')' | any '(' expr DOWNTO expr ')'",
        "expr: relation {AND relation} | relation {OR relation} | relation {XOR relation}"
            + " | relation (NAND | NOR | XNOR) relation",
        "relation: shift [('=' | '/=' | '<' | '<=' | '>' | '>=') shift]",
        "shift: sum [(SLL | SRL) sum]",
        "sum: ['+' | '-'] term {('+' | '-' | '&') term}",
        "term: factor {('*' | '/' | MOD | REM) factor}",
        "factor: [NOT | ABS] primary",
        "primary: '(' expr ')' | number | sign | bits | target | any '(' expr {',' expr} ')' | any ''' any",
    };

    /** One way of what a rule stands for. */
    private record Way(String rule, List<String> parts) {
    }

    /** A way that began at a token, read up to its dot. */
    private record Item(Way way, int dot, int from) {
        boolean ended() {
            return dot == way.parts.size();
        }

        String next() {
            return way.parts.get(dot);
        }

        Item moved() {
            return new Item(way, dot + 1, from);
        }
    }

    private static final Map<String, List<Way>> WAYS = new HashMap<>();
    private static final Set<String> MAY_BE_NOTHING = new HashSet<>();

    static {
        for (String rule : RULES) {
            int colon = rule.indexOf(':');
            new RuleReader(rule.substring(0, colon), rule.substring(colon + 1).trim().split(" +")).read();
        }
        boolean more = true;
        while (more) {
            more = false;
            for (List<Way> ways : WAYS.values()) {
                for (Way way : ways) {
                    more |= MAY_BE_NOTHING.containsAll(way.parts) && MAY_BE_NOTHING.add(way.rule);
                }
            }
        }
    }

    /** Rules with brackets to rules without: each bracket is a rule of its own. */
    private static final class RuleReader {
        private final String rule;
        private final List<String> signs = new ArrayList<>();
        private int at = 0;

        RuleReader(String rule, String[] words) {
            this.rule = rule;
            for (String word : words) {
                split(word);
            }
        }

        private void split(String word) {
            int end = word.length();
            if (end > 1 && "([{".indexOf(word.charAt(0)) >= 0) {
                signs.add(word.substring(0, 1));
                split(word.substring(1));
            } else if (end > 1 && ")]}".indexOf(word.charAt(end - 1)) >= 0) {
                split(word.substring(0, end - 1));
                signs.add(word.substring(end - 1));
            } else {
                signs.add(word);
            }
        }

        void read() {
            readWays(rule);
            if (at != signs.size()) {
                throw new IllegalStateException("the rule of " + rule + " has a bracket too many");
            }
        }

        private void readWays(String name) {
            List<Way> ways = new ArrayList<>();
            WAYS.put(name, ways);
            List<String> parts = new ArrayList<>();
            for (; at < signs.size() && ")]}".indexOf(signs.get(at)) < 0; at++) {
                String sign = signs.get(at);
                if (sign.equals("|")) {
                    ways.add(new Way(name, parts));
                    parts = new ArrayList<>();
                } else if ("([{".contains(sign)) {
                    parts.add(readBracket(sign));
                } else {
                    parts.add(sign);
                }
            }
            ways.add(new Way(name, parts));
        }

        private String readBracket(String open) {
            String inner = rule + " " + at;
            at++;
            readWays(inner);
            if (open.equals("[")) {
                WAYS.get(inner).add(new Way(inner, List.of()));
            } else if (open.equals("{")) {
                String any = inner + " any number";
                WAYS.put(any, List.of(new Way(any, List.of()), new Way(any, List.of(any, inner))));
                return any;
            }
            return inner;
        }
    }

    private final List<LinkedHashSet<Item>> sets = new ArrayList<>();

    Viable() {
        LinkedHashSet<Item> first = new LinkedHashSet<>();
        for (Way way : WAYS.get("file")) {
            first.add(new Item(way, 0, 0));
        }
        sets.add(first);
        complete();
    }

    /** The kinds of tokens that can come next. */
    Set<String> next() {
        Set<String> kinds = new HashSet<>();
        for (Item item : sets.get(sets.size() - 1)) {
            if (item.ended()) {
                if (item.way.rule.equals("file")) {
                    kinds.add(END_OF_TEXT);
                }
            } else if (!WAYS.containsKey(item.next())) {
                kinds.add(item.next());
            }
        }
        return kinds;
    }

    /** Goes on with a token of that kind, which must be one that can come. */
    void take(String kind) {
        LinkedHashSet<Item> moved = new LinkedHashSet<>();
        for (Item item : sets.get(sets.size() - 1)) {
            if (!item.ended() && item.next().equals(kind)) {
                moved.add(item.moved());
            }
        }
        if (moved.isEmpty()) {
            throw new IllegalStateException("no source goes on with " + kind);
        }
        sets.add(moved);
        complete();
    }

    private void complete() {
        int here = sets.size() - 1;
        List<Item> row = new ArrayList<>(sets.get(here));
        for (int i = 0; i < row.size(); i++) {
            Item item = row.get(i);
            if (item.ended()) {
                for (Item outer : new ArrayList<>(sets.get(item.from))) {
                    if (!outer.ended() && outer.next().equals(item.way.rule)) {
                        add(outer.moved(), row);
                    }
                }
            } else if (WAYS.containsKey(item.next())) {
                for (Way way : WAYS.get(item.next())) {
                    add(new Item(way, 0, here), row);
                }
                if (MAY_BE_NOTHING.contains(item.next())) {
                    add(item.moved(), row);
                }
            }
        }
    }

    private void add(Item item, List<Item> row) {
        if (sets.get(sets.size() - 1).add(item)) {
            row.add(item);
        }
    }
}
