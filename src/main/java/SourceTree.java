import java.util.Arrays;

/**
 * Reads the source of a design: characters to tokens, tokens by a grammar to one tree, which is
 * told as a row of nodes, children first; or the first fault and its place.
 */
public final class SourceTree {
    public static final int NONE = -1;

    private static final int MOST_CHARACTERS = 16384;
    private static final int MOST_NODES = 16384;
    private static final int MOST_NAMES = 1000;
    private static final int MOST_OPEN = 40;
    private static final long GREATEST_NUMBER = 2147483647L;
    private static final int LONGEST_ROW = 64;

    // Every turn of a loop over tokens takes one at least, and the text's end is one more.
    private static final int MOST_TOKENS = MOST_CHARACTERS + 1;
    // Above what any row holds: the text, the letters of all words and names.
    private static final int MOST_CELLS = 32768;
    private static final int FEW_CELLS = 64;
    private static final int CHAINS = 512;

    private static final int NO_TOKEN = 1;
    private static final int TOO_GREAT = 2;
    private static final int NOT_HERE = 3;
    private static final int TOO_MANY = 4;
    private static final int TOO_DEEP = 5;
    private static final int OTHER_NAME = 6;

    // A mark of one character is a token of the kind that its character is, so that the grammar
    // below shows the mark itself; all other kinds stand above the characters.
    private static final int BECOMES = 128;
    private static final int AT_MOST = 129;
    private static final int ARROW = 130;
    private static final int UNEQUAL = 131;
    private static final int AT_LEAST = 132;
    private static final int NAME = 140;
    private static final int NUMBER = 141;
    private static final int SIGN = 142;
    private static final int ROW = 143;
    private static final int END_OF_TEXT = 144;
    private static final int FAULT = 145;

    private static final String MARKS = "(),;:=<>+-*/&'|";
    private static final String SIGNS = "ux01zwlh-";

    // The words' kinds follow one another as the words do in the three texts behind them.
    private static final int FIRST_WORD = 256;
    private static final int WORDS = 57;
    private static final int ABS = 256, AFTER = 257, AND = 258, ASSERT = 259, BEGIN = 260;
    private static final int BODY = 261, CASE = 262, CONSTANT = 263, DOWNTO = 264, ELSE = 265;
    private static final int ELSIF = 266, END = 267, EXIT = 268, FOR = 269, GENERATE = 270;
    private static final int GENERIC = 271, IF = 272, IN = 273, INERTIAL = 274, INOUT = 275;
    private static final int IS = 276, LOOP = 277, MAP = 278, MOD = 279, NAND = 280;
    private static final int NEXT = 281, NOR = 282, NOT = 283, NULL = 284, OF = 285;
    private static final int ON = 286, OPEN = 287, OR = 288, OTHERS = 289, OUT = 290;
    private static final int PORT = 291, PROCESS = 292, RANGE = 293, REJECT = 294, REM = 295;
    private static final int REPORT = 296, SIGNAL = 297, SLL = 298, SRL = 299, SUBTYPE = 300;
    private static final int THEN = 301, TO = 302, TRANSPORT = 303, TYPE = 304, UNIT = 305;
    private static final int UNTIL = 306, VARIABLE = 307, WAIT = 308, WHEN = 309, WHILE = 310;
    private static final int XNOR = 311, XOR = 312;
    private static final String WORDS_TO_GENERIC =
        "abs after and assert begin body case constant downto else elsif end exit for generate generic ";
    private static final String WORDS_TO_PROCESS =
        "if in inertial inout is loop map mod nand next nor not null of on open or others out port process ";
    private static final String WORDS_TO_XOR =
        "range reject rem report signal sll srl subtype then to transport type unit until variable wait when while xnor xor ";

    private static final String FIRST_NAMES =
        "integer natural positive boolean logic row true false rising falling number bits ps ns us event active last length left right high low ";
    private static final int INTEGER_NAME = 0;
    private static final int ROW_NAME = 5;
    private static final int PS_NAME = 12;
    private static final int US_NAME = 14;

    // Kinds of nodes that more than one rule of the grammar tells.
    private static final int NOTHING_NODE = 0;
    private static final int NAME_NODE = 1;
    private static final int NUMBER_NODE = 2;
    private static final int SIGN_NODE = 3;
    private static final int LIST_NODE = 48;

    // The columns of a token are its kind, value and place, those of a node what node() asks for.
    private static final int KIND = 0;
    private static final int VALUE = 1;
    private static final int PLACE = 2;
    private static final int COLUMNS = 3;

    private final IntRow characters;
    private final Spellings spellings;
    private final Table tree;
    private final Scanner scanner;
    private final Grammar grammar;
    private int faultPlace;

    public SourceTree() {
        characters = new IntRow(FEW_CELLS);
        spellings = new Spellings();
        tree = new Table();
        Table tokens = new Table();
        scanner = new Scanner(characters, spellings, tokens);
        grammar = new Grammar(characters, tokens, tree);
        faultPlace = NONE;
    }

    public void text(int a, int b, int c, int d) throws IllegalStateException {
        if (characters.size() > MOST_CHARACTERS - 16) {
            throw new IllegalStateException("the text would be too long");
        }
        addFour(a);
        addFour(b);
        addFour(c);
        addFour(d);
    }

    public void cut(int n) throws IllegalArgumentException {
        if (n < 0 || n > characters.size()) {
            throw new IllegalArgumentException("the text has not so many characters");
        }
        characters.cutTo(n);
    }

    public int length() {
        return characters.size();
    }

    public int read() {
        tree.clear();
        scanner.scan();
        try {
            grammar.one(Grammar.WHOLE_FILE);
        } catch (IllegalStateException faultWasRaised) {
            tree.clear();
            spellings.reset();
        }
        faultPlace = grammar.faultPlace;
        return grammar.fault;
    }

    public int place() {
        return faultPlace;
    }

    public int nodes() {
        return tree.size();
    }

    public int node(int i, int what) throws IndexOutOfBoundsException, IllegalArgumentException {
        if (i < 0 || i >= tree.size()) {
            throw new IndexOutOfBoundsException("there is no such node");
        }
        if (what < 0 || what >= COLUMNS) {
            throw new IllegalArgumentException("a node has a kind, a value and children alone");
        }
        return tree.at(i, what);
    }

    public int names() {
        return spellings.size() - WORDS;
    }

    public int name(int n, int i) throws IndexOutOfBoundsException {
        if (n < 0 || n >= spellings.size() - WORDS) {
            throw new IndexOutOfBoundsException("there is no such name");
        }
        return spellings.letterOf(WORDS + n, i);
    }

    private void addFour(int bytes) {
        for (int shift = 24; shift >= 0; shift -= 8) {
            characters.add(bytes >> shift & 255);
        }
    }

    private static boolean isLetter(int c) {
        return c >= 'a' && c <= 'z' || c >= 'A' && c <= 'Z';
    }

    private static boolean isDigit(int c) {
        return c >= '0' && c <= '9';
    }

    private static int small(int c) {
        return c >= 'A' && c <= 'Z' ? c + 32 : c;
    }

    /** Where a character stands among the signs, or NONE. */
    private static int signOf(int c) {
        return c < 0 ? NONE : SIGNS.indexOf((char) small(c));
    }

    /** A row of numbers that grows with its use, so that an object with little text stays small. */
    private static final class IntRow {
        private int[] cells;
        private int size;

        IntRow(int first) {
            cells = new int[first < 1 ? 1 : first];
            size = 0;
        }

        int size() {
            return size;
        }

        /** NONE outside the row, which no character is: a look past the text's end needs no test. */
        int at(int i) {
            return i < 0 || i >= size || i >= cells.length ? NONE : cells[i];
        }

        void add(int value) {
            if (size < 0 || size >= MOST_CELLS) {
                return;
            }
            if (size >= cells.length) {
                cells = Arrays.copyOf(cells, cells.length * 2);
            }
            if (size < cells.length) {
                cells[size] = value;
                size++;
            }
        }

        void put(int i, int value) {
            if (i >= 0 && i < size && i < cells.length) {
                cells[i] = value;
            }
        }

        void cutTo(int n) {
            if (n >= 0 && n <= size) {
                size = n;
            }
        }
    }

    /** Tokens or nodes, three numbers each, in a row that grows as an IntRow does. */
    private static final class Table {
        private int[] cells;
        private int size;

        Table() {
            cells = new int[COLUMNS * FEW_CELLS];
            size = 0;
        }

        int size() {
            return size;
        }

        int at(int i, int column) {
            if (i < 0 || i >= size || column < 0 || column >= COLUMNS) {
                return NONE;
            }
            int cell = i * COLUMNS + column;
            return cell < 0 || cell >= cells.length ? NONE : cells[cell];
        }

        void add(int first, int second, int third) {
            if (size < 0 || size >= MOST_TOKENS) {
                return;
            }
            int cell = size * COLUMNS;
            if (cell + COLUMNS > cells.length) {
                cells = Arrays.copyOf(cells, cells.length * 2);
            }
            if (cell >= 0 && cell + COLUMNS <= cells.length) {
                cells[cell] = first;
                cells[cell + 1] = second;
                cells[cell + 2] = third;
                size++;
            }
        }

        void clear() {
            size = 0;
        }
    }

    /** The words, and behind them the names by their numbers. */
    private static final class Spellings {
        private final IntRow letters;
        // Where each spelling begins, and behind the last one where the next will.
        private final IntRow starts;
        // Of each chain of spellings the newest, and of each spelling the one before it in its chain.
        private final IntRow newest;
        private final IntRow before;
        private int mixed;

        Spellings() {
            letters = new IntRow(CHAINS);
            starts = new IntRow(FEW_CELLS);
            before = new IntRow(FEW_CELLS);
            newest = new IntRow(CHAINS);
            for (int chain = 0; chain < CHAINS; chain++) {
                newest.add(NONE);
            }
            reset();
        }

        /** The words and the first names alone. */
        void reset() {
            letters.cutTo(0);
            before.cutTo(0);
            starts.cutTo(0);
            starts.add(0);
            mixed = 0;
            for (int chain = 0; chain < CHAINS; chain++) {
                newest.put(chain, NONE);
            }
            addAll(WORDS_TO_GENERIC);
            addAll(WORDS_TO_PROCESS);
            addAll(WORDS_TO_XOR);
            addAll(FIRST_NAMES);
        }

        int size() {
            return before.size();
        }

        int letterOf(int spelling, int i) {
            int start = starts.at(spelling);
            int end = starts.at(spelling + 1);
            return i < 0 || i >= end - start ? NONE : letters.at(start + i);
        }

        /** One more letter of the spelling that settle() is asked for next. */
        void addLetter(int c) {
            letters.add(c);
            mixed = mixed * 31 + c;
        }

        /** The number of the spelling whose letters came; a new one if there was none such. */
        int settle() {
            int chain = mixed & CHAINS - 1;
            mixed = 0;
            int start = starts.at(size());
            int spelling = newest.at(chain);
            for (int k = 0; k < size() && spelling != NONE; k++) {
                if (isLast(spelling, start)) {
                    letters.cutTo(start);
                    return spelling;
                }
                spelling = before.at(spelling);
            }
            starts.add(letters.size());
            before.add(newest.at(chain));
            newest.put(chain, size() - 1);
            return size() - 1;
        }

        private boolean isLast(int spelling, int lastStart) {
            int start = starts.at(spelling);
            int count = letters.size() - lastStart;
            if (starts.at(spelling + 1) - start != count) {
                return false;
            }
            for (int i = 0; i < count; i++) {
                if (letters.at(start + i) != letters.at(lastStart + i)) {
                    return false;
                }
            }
            return true;
        }

        private void addAll(String spaced) {
            for (int i = 0; i < spaced.length(); i++) {
                char c = spaced.charAt(i);
                if (c == ' ') {
                    settle();
                } else {
                    addLetter(c);
                }
            }
        }
    }

    /** Characters to tokens, up to the end of the text or the first thing that can be none. */
    private static final class Scanner {
        private final IntRow characters;
        private final Spellings spellings;
        private final Table tokens;
        // A ' that stands here is a mark, whatever follows.
        private int behindName;

        Scanner(IntRow characters, Spellings spellings, Table tokens) {
            this.characters = characters;
            this.spellings = spellings;
            this.tokens = tokens;
            behindName = NONE;
        }

        void scan() {
            tokens.clear();
            spellings.reset();
            behindName = NONE;
            int from = 0;
            for (int k = 0; k < MOST_TOKENS && from != NONE; k++) {
                from = scanToken(behindBlanks(from));
            }
        }

        private int behindBlanks(int from) {
            boolean comment = false;
            for (int at = from; at < characters.size(); at++) {
                int c = characters.at(at);
                if (c == 10) {
                    comment = false;
                } else if (c == '-' && characters.at(at + 1) == '-') {
                    comment = true;
                } else if (!comment && c != 32 && c != 9) {
                    return at;
                }
            }
            return characters.size();
        }

        /** Adds the token that begins there and answers where it ends, or NONE if none can follow. */
        private int scanToken(int from) {
            int c = characters.at(from);
            if (c == NONE) {
                tokens.add(END_OF_TEXT, 0, from);
                return NONE;
            }
            if (isLetter(c)) {
                return scanName(from);
            }
            if (isDigit(c)) {
                return scanNumber(from);
            }
            if (c == '"') {
                return scanRow(from);
            }
            int sign = signOf(characters.at(from + 1));
            if (c == '\'' && from != behindName && sign != NONE && characters.at(from + 2) == '\'') {
                tokens.add(SIGN, sign, from);
                return from + 3;
            }
            return scanMark(from);
        }

        private int scanName(int from) {
            int end = from;
            for (; end < characters.size() && goesOnName(end); end++) {
                spellings.addLetter(small(characters.at(end)));
            }
            int spelling = spellings.settle();
            if (spelling < WORDS) {
                tokens.add(FIRST_WORD + spelling, 0, from);
                return end;
            }
            if (spelling - WORDS >= MOST_NAMES) {
                return endWith(TOO_MANY, from);
            }
            tokens.add(NAME, spelling - WORDS, from);
            behindName = end;
            return end;
        }

        private boolean goesOnName(int at) {
            int c = characters.at(at);
            if (c == '_') {
                c = characters.at(at + 1);
            }
            return isLetter(c) || isDigit(c);
        }

        private int scanNumber(int from) {
            long number = 0;
            int end = from;
            for (; end < characters.size() && isDigit(characters.at(end)); end++) {
                number = Math.min(number * 10 + (characters.at(end) - '0'), GREATEST_NUMBER + 1);
            }
            if (number > GREATEST_NUMBER) {
                return endWith(TOO_GREAT, from);
            }
            tokens.add(NUMBER, (int) number, from);
            return end;
        }

        private int scanRow(int from) {
            int signs = 0;
            for (; signs < LONGEST_ROW && signOf(characters.at(from + 1 + signs)) != NONE; signs++) {
                continue;
            }
            if (signs == 0 || characters.at(from + 1 + signs) != '"') {
                return endWith(NO_TOKEN, from);
            }
            tokens.add(ROW, signs, from);
            return from + signs + 2;
        }

        private int scanMark(int from) {
            int c = characters.at(from);
            int pair = pairOf(c, characters.at(from + 1));
            if (pair != NONE) {
                tokens.add(pair, 0, from);
                return from + 2;
            }
            if (c < 0 || MARKS.indexOf((char) c) < 0) {
                return endWith(NO_TOKEN, from);
            }
            tokens.add(c, 0, from);
            return from + 1;
        }

        private static int pairOf(int c, int next) {
            if (next == '=') {
                switch (c) {
                    case ':':
                        return BECOMES;
                    case '<':
                        return AT_MOST;
                    case '/':
                        return UNEQUAL;
                    case '>':
                        return AT_LEAST;
                    default:
                        return NONE;
                }
            }
            return c == '=' && next == '>' ? ARROW : NONE;
        }

        private int endWith(int fault, int from) {
            tokens.add(FAULT, fault, from);
            return NONE;
        }
    }

    /**
     * Where the grammar stands in the tokens, and the tree so far. A token is looked at as soon as
     * the one before it was taken, so that its own faults come before those of nodes told then.
     */
    private abstract static class Cursor {
        // Of the next token.
        int kind;
        int value;
        int place;

        int fault;
        int faultPlace;

        private final Table tokens;
        private final Table tree;
        private int next;
        private int open;

        Cursor(Table tokens, Table tree) {
            this.tokens = tokens;
            this.tree = tree;
            kind = NONE;
            value = 0;
            place = 0;
            fault = 0;
            faultPlace = NONE;
            next = 0;
            open = 0;
        }

        final void begin() {
            fault = 0;
            faultPlace = NONE;
            next = NONE;
            open = 0;
            take();
        }

        final void take() {
            next++;
            kind = tokens.at(next, KIND);
            value = tokens.at(next, VALUE);
            place = tokens.at(next, PLACE);
            if (kind == FAULT) {
                raise(value);
            }
        }

        final boolean accept(int due) {
            if (kind != due) {
                return false;
            }
            take();
            return true;
        }

        final void expect(int due) {
            if (kind != due) {
                raise(NOT_HERE);
            }
            take();
        }

        final int takeName() {
            if (kind != NAME) {
                raise(NOT_HERE);
            }
            int number = value;
            take();
            return number;
        }

        /** Counts what the next token opens. */
        final void enter() {
            if (open >= MOST_OPEN) {
                raise(TOO_DEEP);
            }
            open++;
        }

        final void leave() {
            open--;
        }

        final void tell(int nodeKind, int nodeValue, int children) {
            if (tree.size() >= MOST_NODES) {
                raise(TOO_MANY);
            }
            tree.add(nodeKind, nodeValue, children);
        }

        final void tellNothing() {
            tell(NOTHING_NODE, 0, 0);
        }

        final int told() {
            return tree.size();
        }

        final void tellAgain(int from, int to) {
            for (int i = from; i < to; i++) {
                tell(tree.at(i, 0), tree.at(i, 1), tree.at(i, 2));
            }
        }

        final void raise(int which) {
            fault = which;
            faultPlace = place;
            throw new IllegalStateException("a fault of the source");
        }
    }

    /** The rules of the grammar, a method each, from the file down to what stands in expressions. */
    private static final class Grammar extends Cursor {
        private static final int UNIT_OR_BODY = 0;
        private static final int GENERIC_RULE = 1;
        private static final int PORT_RULE = 2;
        private static final int BODY_DECLARATION = 3;
        private static final int PROCESS_DECLARATION = 4;
        private static final int CONCURRENT = 5;
        private static final int MAP_RULE = 6;
        private static final int STATEMENT = 7;
        private static final int ELEMENT = 8;
        private static final int TIME = 9;
        private static final int CHOICE = 10;
        private static final int NAME_ALONE = 11;
        private static final int WHOLE_FILE = 12;

        private static final int SIGNAL_NODE = 50;
        private static final int CONSTANT_NODE = 51;
        private static final int VARIABLE_NODE = 52;

        private static final int REJECTING = 2;

        private static final int LOGIC = 1;
        private static final int RELATION = 2;
        private static final int SHIFT = 3;
        private static final int SUM = 4;
        private static final int SIGN_IN_FRONT = 5;
        private static final int TERM = 6;

        private static final int AND_OPERATOR = 0;
        private static final int OR_OPERATOR = 1;
        private static final int XOR_OPERATOR = 4;
        // Pending as the operators are, though their nodes are of another kind.
        private static final int MINUS_IN_FRONT = 21;
        private static final int PLUS_IN_FRONT = 22;

        private final IntRow characters;
        // The names of the one declaration that is being read.
        private final IntRow declared;
        // Operators whose right side is not yet read, of all expressions that are open.
        private final IntRow pending;

        Grammar(IntRow characters, Table tokens, Table tree) {
            super(tokens, tree);
            this.characters = characters;
            declared = new IntRow(FEW_CELLS);
            pending = new IntRow(FEW_CELLS);
        }

        /** Reads one of what the rule tells; answers how many nodes stand for it. */
        private int one(int rule) {
            switch (rule) {
                case WHOLE_FILE:
                    wholeFile();
                    return 1;
                case UNIT_OR_BODY:
                    unitOrBody();
                    return 1;
                case GENERIC_RULE:
                    return generic();
                case PORT_RULE:
                    return port();
                case BODY_DECLARATION:
                case PROCESS_DECLARATION:
                    return declaration();
                case CONCURRENT:
                    concurrent();
                    return 1;
                case MAP_RULE:
                    map();
                    return 1;
                case STATEMENT:
                    statement();
                    return 1;
                case ELEMENT:
                    element();
                    return 1;
                case TIME:
                    time();
                    return 1;
                case CHOICE:
                    choice();
                    return 1;
                default:
                    tell(NAME_NODE, takeName(), 0);
                    return 1;
            }
        }

        /** Of the rules that may come any number of times. */
        private boolean canBegin(int rule) {
            switch (rule) {
                case UNIT_OR_BODY:
                    return kind == UNIT || kind == BODY;
                case BODY_DECLARATION:
                    return kind == SIGNAL || kind == CONSTANT || kind == TYPE || kind == SUBTYPE;
                case PROCESS_DECLARATION:
                    return kind == CONSTANT || kind == VARIABLE;
                case CONCURRENT:
                    return kind == NAME || kind == PROCESS;
                default:
                    return kind == NAME || kind == IF || kind == CASE || kind == FOR || kind == WHILE
                        || kind == LOOP || kind == EXIT || kind == NEXT || kind == WAIT || kind == NULL
                        || kind == REPORT || kind == ASSERT;
            }
        }

        private void listOfAny(int rule) {
            int children = 0;
            for (int k = 0; k < MOST_TOKENS && canBegin(rule); k++) {
                children += one(rule);
            }
            tell(LIST_NODE, 0, children);
        }

        private int oneOrMore(int rule, int mark) {
            int children = one(rule);
            for (int k = 0; k < MOST_TOKENS && accept(mark); k++) {
                children += one(rule);
            }
            return children;
        }

        private void listOfSome(int rule, int mark) {
            tell(LIST_NODE, 0, oneOrMore(rule, mark));
        }

        private void emptyList() {
            tell(LIST_NODE, 0, 0);
        }

        private void wholeFile() {
            // A fault may have left operators of an earlier text.
            pending.cutTo(0);
            begin();
            int children = one(UNIT_OR_BODY);
            for (int k = 0; k < MOST_TOKENS && canBegin(UNIT_OR_BODY); k++) {
                children += one(UNIT_OR_BODY);
            }
            tell(74, 0, children);
            if (kind != END_OF_TEXT) {
                raise(NOT_HERE);
            }
        }

        private void unitOrBody() {
            if (kind == BODY) {
                body();
            } else {
                unit();
            }
        }

        private void unit() {
            expect(UNIT);
            int n = takeName();
            expect(IS);
            interfaceList(GENERIC, GENERIC_RULE);
            interfaceList(PORT, PORT_RULE);
            expect(END);
            accept(UNIT);
            nameBehindEnd(n);
            expect(';');
            tell(70, n, 2);
        }

        private void interfaceList(int word, int rule) {
            if (accept(word)) {
                expect('(');
                listOfSome(rule, ';');
                expect(')');
                expect(';');
            } else {
                emptyList();
            }
        }

        private int generic() {
            declaredNames();
            int from = told();
            type();
            expressionBehind(BECOMES);
            return tellDeclared(71, 2, from);
        }

        private int port() {
            declaredNames();
            int from = told();
            int direction = kind == IN ? 0 : kind == OUT ? 1 : kind == INOUT ? 2 : NONE;
            if (direction == NONE) {
                raise(NOT_HERE);
            }
            take();
            tell(NUMBER_NODE, direction, 0);
            type();
            expressionBehind(BECOMES);
            return tellDeclared(72, 3, from);
        }

        private void declaredNames() {
            declared.cutTo(0);
            declared.add(takeName());
            for (int k = 0; k < MOST_TOKENS && accept(','); k++) {
                declared.add(takeName());
            }
            expect(':');
        }

        /** The first name's node behind its children, then for each further name all of it again. */
        private int tellDeclared(int nodeKind, int children, int from) {
            int to = told();
            tell(nodeKind, declared.at(0), children);
            for (int k = 1; k < declared.size(); k++) {
                tellAgain(from, to);
                tell(nodeKind, declared.at(k), children);
            }
            return declared.size();
        }

        private void expressionBehind(int mark) {
            if (accept(mark)) {
                expression();
            } else {
                tellNothing();
            }
        }

        private void type() {
            int n = takeName();
            if (n == ROW_NAME) {
                expect('(');
                expression();
                boolean down = takeDirection();
                expression();
                expect(')');
                tell(down ? 13 : 12, ROW_NAME, 2);
            } else if (n == INTEGER_NAME && accept(RANGE)) {
                expression();
                expect(TO);
                expression();
                tell(11, INTEGER_NAME, 2);
            } else {
                tell(10, n, 0);
            }
        }

        /** Whether it is DOWNTO. */
        private boolean takeDirection() {
            if (accept(DOWNTO)) {
                return true;
            }
            expect(TO);
            return false;
        }

        private void body() {
            expect(BODY);
            int n = takeName();
            expect(OF);
            tell(NAME_NODE, takeName(), 0);
            expect(IS);
            listOfAny(BODY_DECLARATION);
            expect(BEGIN);
            listOfAny(CONCURRENT);
            expect(END);
            accept(BODY);
            nameBehindEnd(n);
            expect(';');
            tell(73, n, 3);
        }

        private void nameBehindEnd(int n) {
            if (kind == NAME) {
                if (value != n) {
                    raise(OTHER_NAME);
                }
                take();
            }
        }

        private int declaration() {
            switch (kind) {
                case SIGNAL:
                    return objects(SIGNAL_NODE);
                case CONSTANT:
                    return objects(CONSTANT_NODE);
                case VARIABLE:
                    return objects(VARIABLE_NODE);
                case TYPE:
                    typeDeclaration();
                    return 1;
                default:
                    subtypeDeclaration();
                    return 1;
            }
        }

        private int objects(int nodeKind) {
            take();
            declaredNames();
            int from = told();
            type();
            if (nodeKind == CONSTANT_NODE) {
                expect(BECOMES);
                expression();
            } else {
                expressionBehind(BECOMES);
            }
            expect(';');
            return tellDeclared(nodeKind, 2, from);
        }

        private void typeDeclaration() {
            expect(TYPE);
            int n = takeName();
            expect(IS);
            expect('(');
            int children = oneOrMore(NAME_ALONE, ',');
            expect(')');
            expect(';');
            tell(53, n, children);
        }

        private void subtypeDeclaration() {
            expect(SUBTYPE);
            int n = takeName();
            expect(IS);
            type();
            expect(';');
            tell(54, n, 1);
        }

        private void concurrent() {
            if (kind == PROCESS) {
                process(NONE);
                return;
            }
            int n = takeName();
            if (!accept(':')) {
                concurrentAssignment(n);
                return;
            }
            switch (kind) {
                case PROCESS:
                    process(n);
                    break;
                case UNIT:
                    instance(n);
                    break;
                case FOR:
                case IF:
                    generate(n);
                    break;
                default:
                    concurrentAssignment(takeName());
                    break;
            }
        }

        private void concurrentAssignment(int n) {
            behindName(n, false);
            expect(AT_MOST);
            // NOTHING has no token, so it comes before the word of a mode without a time.
            if (kind != REJECT) {
                tellNothing();
            }
            int mode = mode();
            listOfSome(ELEMENT, ',');
            int children = 3;
            for (int k = 0; k < MOST_TOKENS && accept(WHEN); k++) {
                expression();
                expect(ELSE);
                listOfSome(ELEMENT, ',');
                children += 2;
            }
            expect(';');
            tell(61, mode, children);
        }

        private int mode() {
            if (accept(REJECT)) {
                one(TIME);
                expect(INERTIAL);
                return REJECTING;
            }
            if (accept(TRANSPORT)) {
                return 1;
            }
            accept(INERTIAL);
            return 0;
        }

        private void element() {
            expression();
            timeBehind(AFTER);
            tell(31, 0, 2);
        }

        private void timeBehind(int word) {
            if (accept(word)) {
                one(TIME);
            } else {
                tellNothing();
            }
        }

        private void time() {
            primary();
            if (kind != NAME || value < PS_NAME || value > US_NAME) {
                raise(NOT_HERE);
            }
            tell(32, takeName(), 1);
        }

        private void instance(int n) {
            expect(UNIT);
            tell(NAME_NODE, takeName(), 0);
            mapList(GENERIC);
            mapList(PORT);
            expect(';');
            tell(62, n, 3);
        }

        private void mapList(int word) {
            if (accept(word)) {
                expect(MAP);
                expect('(');
                listOfSome(MAP_RULE, ',');
                expect(')');
            } else {
                emptyList();
            }
        }

        private void map() {
            int m = takeName();
            expect(ARROW);
            if (kind == OPEN) {
                // NOTHING has no token, so it comes before the word that asks for it.
                tellNothing();
                take();
            } else {
                expression();
            }
            tell(63, m, 1);
        }

        private void generate(int n) {
            enter();
            boolean counted = accept(FOR);
            if (counted) {
                tell(NAME_NODE, takeName(), 0);
                expect(IN);
                expression();
                expect(TO);
                expression();
            } else {
                expect(IF);
                expression();
            }
            expect(GENERATE);
            listOfAny(CONCURRENT);
            expect(END);
            expect(GENERATE);
            nameBehindEnd(n);
            expect(';');
            leave();
            tell(counted ? 64 : 65, n, counted ? 4 : 2);
        }

        private void process(int n) {
            expect(PROCESS);
            if (accept('(')) {
                listOfSome(NAME_ALONE, ',');
                expect(')');
            } else {
                tellNothing();
            }
            accept(IS);
            listOfAny(PROCESS_DECLARATION);
            expect(BEGIN);
            listOfAny(STATEMENT);
            expect(END);
            expect(PROCESS);
            if (n != NONE) {
                nameBehindEnd(n);
            }
            expect(';');
            tell(60, n, 3);
        }

        private void statement() {
            switch (kind) {
                case IF:
                    ifStatement();
                    break;
                case CASE:
                    caseStatement();
                    break;
                case FOR:
                case WHILE:
                case LOOP:
                    loopStatement();
                    break;
                case EXIT:
                    leaveOrRepeat(42);
                    break;
                case NEXT:
                    leaveOrRepeat(43);
                    break;
                case WAIT:
                    waitStatement();
                    break;
                case NULL:
                    take();
                    expect(';');
                    tell(45, 0, 0);
                    break;
                case REPORT:
                case ASSERT:
                    reportStatement();
                    break;
                default:
                    assignment();
                    break;
            }
        }

        private void assignment() {
            behindName(takeName(), false);
            if (accept(BECOMES)) {
                expression();
                expect(';');
                tell(33, 0, 2);
                return;
            }
            expect(AT_MOST);
            int mode = mode();
            int children = mode == REJECTING ? 2 : 1;
            children += oneOrMore(ELEMENT, ',');
            expect(';');
            tell(30, mode, children);
        }

        private void ifStatement() {
            enter();
            expect(IF);
            int children = 0;
            for (int k = 0; k < MOST_TOKENS && (k == 0 || accept(ELSIF)); k++) {
                expression();
                expect(THEN);
                listOfAny(STATEMENT);
                children += 2;
            }
            // The last LIST stands there without an ELSE too, as all lists that may be left out do.
            if (accept(ELSE)) {
                listOfAny(STATEMENT);
            } else {
                emptyList();
            }
            expect(END);
            expect(IF);
            expect(';');
            leave();
            tell(34, 0, children + 1);
        }

        private void caseStatement() {
            enter();
            expect(CASE);
            expression();
            expect(IS);
            if (kind != WHEN) {
                raise(NOT_HERE);
            }
            int children = 1;
            for (int k = 0; k < MOST_TOKENS && accept(WHEN); k++) {
                listOfSome(CHOICE, '|');
                expect(ARROW);
                listOfAny(STATEMENT);
                tell(36, 0, 2);
                children++;
            }
            expect(END);
            expect(CASE);
            expect(';');
            leave();
            tell(35, 0, children);
        }

        private void choice() {
            if (accept(OTHERS)) {
                tell(37, 0, 0);
            } else {
                expression();
            }
        }

        private void loopStatement() {
            enter();
            int nodeKind = 41;
            int n = 0;
            int children = 1;
            if (accept(FOR)) {
                n = takeName();
                expect(IN);
                expression();
                nodeKind = takeDirection() ? 39 : 38;
                expression();
                children = 3;
            } else if (accept(WHILE)) {
                expression();
                nodeKind = 40;
                children = 2;
            }
            expect(LOOP);
            listOfAny(STATEMENT);
            expect(END);
            expect(LOOP);
            expect(';');
            leave();
            tell(nodeKind, n, children);
        }

        private void leaveOrRepeat(int nodeKind) {
            take();
            expressionBehind(WHEN);
            expect(';');
            tell(nodeKind, 0, 1);
        }

        private void waitStatement() {
            expect(WAIT);
            if (accept(ON)) {
                listOfSome(NAME_ALONE, ',');
            } else {
                emptyList();
            }
            expressionBehind(UNTIL);
            timeBehind(FOR);
            expect(';');
            tell(44, 0, 3);
        }

        private void reportStatement() {
            boolean asserted = accept(ASSERT);
            if (asserted) {
                expression();
            }
            expect(REPORT);
            expression();
            expect(';');
            tell(asserted ? 47 : 46, 0, asserted ? 2 : 1);
        }

        /**
         * All levels of operators in one loop: a method a level would make too many calls stand
         * open at once when forty parentheses are open.
         */
        private void expression() {
            int floor = pending.size();
            boolean signMayCome = true;
            for (int k = 0; k < MOST_TOKENS; k++) {
                if (signMayCome) {
                    signInFront();
                }
                factor();
                int operator = operatorThatJoins(floor);
                int level = levelOf(operator);
                tellPending(floor, level);
                if (operator == NONE) {
                    return;
                }
                pending.add(operator);
                take();
                signMayCome = level < SUM;
            }
        }

        private void primary() {
            int first = value;
            switch (kind) {
                case '(':
                    enter();
                    take();
                    expression();
                    expect(')');
                    leave();
                    break;
                case NUMBER:
                    take();
                    tell(NUMBER_NODE, first, 0);
                    break;
                case SIGN:
                    take();
                    tell(SIGN_NODE, first, 0);
                    break;
                case ROW:
                    rowOfSigns();
                    break;
                case NAME:
                    take();
                    if (accept('\'')) {
                        tell(NAME_NODE, takeName(), 0);
                        tell(25, first, 1);
                    } else {
                        behindName(first, true);
                    }
                    break;
                default:
                    raise(NOT_HERE);
                    break;
            }
        }

        /** What is left of a target whose name was taken, or of a primary, which may list several. */
        private void behindName(int n, boolean several) {
            if (kind != '(') {
                tell(NAME_NODE, n, 0);
                return;
            }
            enter();
            take();
            expression();
            int nodeKind = kind == TO ? 23 : kind == DOWNTO ? 24 : 22;
            int children = 1;
            if (nodeKind != 22) {
                take();
                expression();
                children = 2;
            } else if (several) {
                for (int k = 0; k < MOST_TOKENS && accept(','); k++) {
                    expression();
                    children++;
                }
            }
            expect(')');
            leave();
            tell(nodeKind, n, children);
        }

        private void signInFront() {
            if (kind == '-') {
                pending.add(MINUS_IN_FRONT);
                take();
            } else if (kind == '+') {
                pending.add(PLUS_IN_FRONT);
                take();
            }
        }

        private void factor() {
            if (accept(NOT)) {
                primary();
                tell(20, 0, 1);
            } else if (accept(ABS)) {
                primary();
                tell(20, 3, 1);
            } else {
                primary();
            }
        }

        private void rowOfSigns() {
            int from = place + 1;
            int signs = value;
            take();
            for (int i = 0; i < signs; i++) {
                tell(SIGN_NODE, signOf(characters.at(from + i)), 0);
            }
            tell(4, 0, signs);
        }

        /**
         * The next token as an operator that may go on with this expression, or NONE. Pending ones
         * of one expression rise in level, so that one of the same level tells what came before.
         */
        private int operatorThatJoins(int floor) {
            int operator = operatorOf(kind);
            int level = levelOf(operator);
            for (int k = floor; k < pending.size() && operator != NONE; k++) {
                int earlier = pending.at(k);
                if (levelOf(earlier) == level && !mayFollow(earlier, operator, level)) {
                    return NONE;
                }
            }
            return operator;
        }

        private static boolean mayFollow(int earlier, int operator, int level) {
            if (level == LOGIC) {
                return earlier == operator
                    && (operator == AND_OPERATOR || operator == OR_OPERATOR || operator == XOR_OPERATOR);
            }
            return level >= SUM;
        }

        /** Tells the pending operators of this expression that bind no weaker than the next one. */
        private void tellPending(int floor, int level) {
            for (int k = pending.size() - 1; k >= floor && levelOf(pending.at(k)) >= level; k--) {
                int operator = pending.at(k);
                pending.cutTo(k);
                if (operator == MINUS_IN_FRONT) {
                    tell(20, 1, 1);
                } else if (operator == PLUS_IN_FRONT) {
                    tell(20, 2, 1);
                } else {
                    tell(21, operator, 2);
                }
            }
        }

        private static int levelOf(int operator) {
            if (operator < 0) {
                return 0;
            }
            if (operator <= 5) {
                return LOGIC;
            }
            if (operator <= 11) {
                return RELATION;
            }
            if (operator <= 14) {
                return SUM;
            }
            if (operator <= 18) {
                return TERM;
            }
            return operator <= 20 ? SHIFT : SIGN_IN_FRONT;
        }

        private static int operatorOf(int kind) {
            switch (kind) {
                case AND:
                    return AND_OPERATOR;
                case OR:
                    return OR_OPERATOR;
                case NAND:
                    return 2;
                case NOR:
                    return 3;
                case XOR:
                    return XOR_OPERATOR;
                case XNOR:
                    return 5;
                case '=':
                    return 6;
                case UNEQUAL:
                    return 7;
                case '<':
                    return 8;
                case AT_MOST:
                    return 9;
                case '>':
                    return 10;
                case AT_LEAST:
                    return 11;
                case '+':
                    return 12;
                case '-':
                    return 13;
                case '&':
                    return 14;
                case '*':
                    return 15;
                case '/':
                    return 16;
                case MOD:
                    return 17;
                case REM:
                    return 18;
                case SLL:
                    return 19;
                case SRL:
                    return 20;
                default:
                    return NONE;
            }
        }
    }
}
