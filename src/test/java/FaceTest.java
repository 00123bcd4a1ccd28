/**
 * Promises 1 to 10, call by call: ordinary answers, the edges and the calls that are refused. The
 * document's sentence stands above the tests of what it says.
 */
public final class FaceTest {
    private static final String NO_INDEX = "IndexOutOfBoundsException";
    private static final String NO_ARGUMENT = "IllegalArgumentException";
    private static final String NO_STATE = "IllegalStateException";
    private static final int BLANKS = 0x20202020;

    public static void main(String[] args) {
        newObject();
        twoObjects();
        sixteenCharacters();
        everyByte();
        fullText();
        fullTextByCalls();
        cutBounds();
        cutThenText();
        lengths();
        readOfEachFault();
        readAgain();
        readForgetsTheTextBefore();
        faultsLeaveNothingBehind();
        placeOfLastRead();
        nodesUntilRead();
        nodeBounds();
        nodeOfNone();
        nameBounds();
        exampleOfTheReadme();
        Check.end();
    }

    // Promise 1: "No text, nothing read."
    private static void newObject() {
        SourceTree x = new SourceTree();
        Check.same("NONE", SourceTree.NONE, -1);
        Check.same("place of a new object", x.place(), -1);
        Check.same("nodes of a new object", x.nodes(), 0);
        Check.same("names of a new object", x.names(), 23);
        Check.same("length of a new object", x.length(), 0);
        Check.same("read of a new object", Check.read(x), "3 at 0");
        Check.same("nodes after it", x.nodes(), 0);
        Check.same("names after it", x.names(), 23);
        Check.same("length after it", x.length(), 0);
    }

    private static void twoObjects() {
        SourceTree x = Check.of("unit abc is end;");
        SourceTree y = Check.of("unit xyz is end _");
        Check.same("first of two", Check.read(x), "0 at -1");
        Check.same("second of two", Check.read(y), "1 at 16");
        Check.same("the first one's nodes", x.nodes(), 4);
        Check.same("the first one's place", x.place(), -1);
        Check.same("the first one's name", Check.nameOf(x, 23), "abc");
        Check.same("the second one's names", y.names(), 23);
    }

    // Promise 2: "Sixteen characters come behind the text, the highest byte of each int first."
    private static void sixteenCharacters() {
        SourceTree x = new SourceTree();
        x.text(0x756e6974, 0x20416263, 0x64656667, 0x68696a6b);
        Check.same("length of sixteen", x.length(), 16);
        x.text(0x6c6d6e6f, 0x70717273, 0x74757677, 0x78797a20);
        Check.same("length of twice sixteen", x.length(), 32);
        x.text(0x69732065, 0x6e643b20, BLANKS, BLANKS);
        Check.same("read of them", Check.read(x), "0 at -1");
        Check.same("letters in their order", Check.nameOf(x, 23), "abcdefghijklmnopqrstuvwxyz");
    }

    // "THE TEXT is characters, numbers 0 .. 255": also those of an int below 0.
    private static void everyByte() {
        for (int i = 0; i < 16; i++) {
            for (int c : new int[] {0, 127, 128, 255}) {
                int[] ints = {BLANKS, BLANKS, BLANKS, BLANKS};
                ints[i / 4] ^= (c ^ 32) << 24 - i % 4 * 8;
                SourceTree x = new SourceTree();
                x.text(ints[0], ints[1], ints[2], ints[3]);
                Check.same(c + " as character " + i, Check.read(x), "1 at " + i);
                x.cut(i);
                Check.same("only spaces before it", Check.read(x), "3 at " + i);
            }
        }
        SourceTree x = new SourceTree();
        x.text(0, 0, 0, 0);
        Check.same("sixteen zeroes", x.length() + " " + Check.read(x), "16 1 at 0");
        x.cut(0);
        x.text(-1, -1, -1, -1);
        Check.same("sixteen times 255", x.length() + " " + Check.read(x), "16 1 at 0");
        x.cut(0);
        x.text(Integer.MIN_VALUE, Integer.MAX_VALUE, Integer.MIN_VALUE, Integer.MAX_VALUE);
        Check.same("the least int", x.length() + " " + Check.read(x), "16 1 at 0");
    }

    // "IllegalStateException when it would have more than 16384."
    private static void fullText() {
        int dashes = 0x2d2d2d2d;
        for (int length = 16366; length <= 16384; length++) {
            SourceTree x = Check.of("unit a is end; " + " ".repeat(length - 15));
            boolean fits = length <= 16368;
            Check.same("text behind " + length, text(x, dashes), fits ? "0" : NO_STATE);
            Check.same("length then", x.length(), fits ? length + 16 : length);
            Check.same("the text is whole", Check.read(x), "0 at -1");
        }
        SourceTree full = Check.of(" ".repeat(16383) + "_");
        Check.same("the last character", Check.read(full), "1 at 16383");
        Check.same("refused", text(full, dashes), NO_STATE);
        Check.same("refused again", text(full, dashes), NO_STATE);
        Check.same("the last character stays", Check.read(full), "1 at 16383");
        full.cut(16383);
        Check.same("without it", Check.read(full), "3 at 16383");
        String name = "n".repeat(16384 - 13);
        SourceTree longest = Check.of("unit " + name + " is end;");
        Check.same("one name through the text", longest.length() + " " + Check.read(longest), "16384 0 at -1");
        Check.same("its last letters", name(longest, 23, 16370) + " " + name(longest, 23, 16371), (int) 'n' + " -1");
        longest.cut(16383);
        Check.same("without its end", Check.read(longest), "3 at 16383");
    }

    private static void fullTextByCalls() {
        SourceTree x = new SourceTree();
        for (int i = 0; i < 1024; i++) {
            Check.same("text " + i, text(x, BLANKS), "0");
        }
        Check.same("full", x.length(), 16384);
        Check.same("text over", text(x, BLANKS), NO_STATE);
        Check.same("still full", x.length(), 16384);
        Check.same("read of blanks", Check.read(x), "3 at 16384");
        x.cut(16369);
        Check.same("text over by one", text(x, BLANKS), NO_STATE);
        Check.same("unchanged", x.length(), 16369);
        x.cut(16368);
        Check.same("text just fits", text(x, BLANKS), "0");
        Check.same("full again", x.length(), 16384);
    }

    // Promise 3: "The text is only its first n characters. IllegalArgumentException when it has not
    // so many, or n is below 0."
    private static void cutBounds() {
        for (int n : new int[] {-1, -16, 17, 16384, 16385, Integer.MIN_VALUE, Integer.MAX_VALUE}) {
            SourceTree x = Check.of("unit abc is end;");
            Check.same("cut to " + n, cut(x, n), NO_ARGUMENT);
            Check.same("length after cut to " + n, x.length(), 16);
            Check.same("read after cut to " + n, Check.read(x), "0 at -1");
        }
        SourceTree empty = new SourceTree();
        Check.same("cut of none to 0", cut(empty, 0), "0");
        Check.same("cut of none to 1", cut(empty, 1), NO_ARGUMENT);
        Check.same("cut of none to -1", cut(empty, -1), NO_ARGUMENT);
        SourceTree x = Check.of("unit abc is end;");
        for (int n = 16; n >= 0; n--) {
            Check.same("cut to " + n, cut(x, n), "0");
            Check.same("length when cut to " + n, x.length(), n);
            Check.same("what is cut is gone", cut(x, n + 1), NO_ARGUMENT);
            Check.same("length when that was refused", x.length(), n);
        }
        Check.same("all is cut", Check.read(x), "3 at 0");
        SourceTree full = Check.of(" ".repeat(16384));
        Check.same("cut of a full text to more", cut(full, 16385), NO_ARGUMENT);
        Check.same("cut of a full text to all", cut(full, 16384), "0");
        Check.same("length of a full text", full.length(), 16384);
    }

    private static void cutThenText() {
        SourceTree x = Check.of("unit abc is end;");
        x.cut(8);
        Check.same("cut", Check.read(x), "3 at 8");
        Check.put(x, "d is end;");
        Check.same("another end", Check.read(x), "0 at -1");
        Check.same("name over the cut", Check.nameOf(x, 23), "abcd");
        x.cut(0);
        Check.put(x, "body x of y is begin end;");
        Check.same("another text", Check.told(x), "74(73:23(1:24 48 48))");
    }

    // Promise 4: "How many characters the text has."
    private static void lengths() {
        SourceTree x = new SourceTree();
        int[] cuts = {16, 0, 15, 31, 1, 17, 2, 18, 33};
        int due = 0;
        for (int n : cuts) {
            text(x, BLANKS);
            due += 16;
            Check.same("length of all", x.length(), due);
            if (n <= due) {
                x.cut(n);
                due = n;
            }
            Check.same("length cut to " + n, x.length(), due);
            x.read();
            Check.same("length when read", x.length(), due);
        }
    }

    // Promise 5: "0, or the fault. With one nothing is read: no nodes, the names 0 .. 22 alone."
    private static void readOfEachFault() {
        String deep = "body abc of b is begin process begin abc:=" + "(".repeat(41);
        String[] faulty = {"1 unit abc is end _", "2 unit abc is end 2147483648", "3 unit abc is end end",
            "4 " + LimitTest.namesUpTo(1000), "4 " + RandomSource.filler(16384), "5 " + deep, "6 unit abc is end other;"};
        SourceTree x = new SourceTree();
        for (String each : faulty) {
            x.cut(0);
            Check.put(x, "unit abc is end; unit other is end;");
            Check.same("before the fault", Check.read(x), "0 at -1");
            Check.same("nodes before the fault", x.nodes(), 7);
            Check.same("names before the fault", x.names(), 25);
            x.cut(0);
            String text = each.substring(2);
            Check.put(x, text);
            Check.same("the fault", x.read(), each.charAt(0) - '0');
            Check.same("no nodes", x.nodes(), 0);
            Check.same("no node", node(x, 0, 0), NO_INDEX);
            Check.same("names", x.names(), 23);
            Check.same("no name", name(x, 23, 0), NO_INDEX);
            for (int n = 0; n < 23; n++) {
                Check.same("name " + n + " with fault " + each.charAt(0), Check.nameOf(x, n), Check.FIRST_NAMES[n]);
            }
            Check.same("the text stays", x.length(), text.length());
        }
    }

    // "Reads the text (which stays)"
    private static void readAgain() {
        SourceTree good = Check.of("unit abc is generic(d:integer); end;");
        SourceTree bad = Check.of("unit abc is generic(d:integer); end other;");
        for (int time = 0; time < 3; time++) {
            Check.same("tree", Check.told(good), "74(70:23(48(71:24(10 0)) 48))");
            Check.same("names", good.names(), 25);
            Check.same("length", good.length(), 36);
            Check.same("fault", Check.read(bad), "6 at 36");
            Check.same("length with a fault", bad.length(), 42);
        }
    }

    private static void readForgetsTheTextBefore() {
        SourceTree x = Check.of("body x of y is type z is(w); begin end;");
        Check.same("four names", Check.told(x) + " " + x.names(), "74(73:23(1:24 48(53:25(1:26)) 48)) 27");
        x.cut(0);
        Check.put(x, "body y of w is begin end;");
        Check.same("two names", Check.told(x) + " " + x.names(), "74(73:23(1:24 48 48)) 25");
        Check.same("numbers as they come", Check.nameOf(x, 23) + " " + Check.nameOf(x, 24), "y w");
        Check.same("the others are gone", name(x, 25, 0), NO_INDEX);
    }

    private static void faultsLeaveNothingBehind() {
        String process = "body b of a is begin process begin ";
        String deep = "-a or a=a sll a+a*(";
        SourceTree x = Check.of(process + "if a then ".repeat(20) + "a:=" + deep.repeat(20));
        for (int time = 0; time < 400; time++) {
            Check.same("open at the end", Check.read(x), "3 at " + x.length());
        }
        x.cut(0);
        Check.put(x, process + "a:=" + deep.repeat(40) + "a" + ")".repeat(40) + "; end process; end;");
        Check.same("forty open after all of these", Check.read(x), "0 at -1");
        // Five names and six operators of each, and the last name; before them NAME, LIST, NOTHING,
        // LIST and the target, behind them the statement, LIST, the process, LIST, the body, the file.
        Check.same("all of their nodes", x.nodes(), 40 * 11 + 1 + 5 + 6);
    }

    // Promise 6: "The place of the last read()'s fault; NONE when it had none, or there was none."
    private static void placeOfLastRead() {
        SourceTree x = new SourceTree();
        Check.same("none was read", x.place(), -1);
        Check.put(x, "_unit abc is end;");
        Check.same("text without read", x.place(), -1);
        Check.same("fault at the beginning", x.read(), 1);
        Check.same("its place", x.place(), 0);
        x.cut(0);
        Check.same("the place stays when the text is cut", x.place(), 0);
        Check.put(x, "unit abc is end;");
        Check.same("the place stays when text comes", x.place(), 0);
        Check.same("no fault", x.read(), 0);
        Check.same("no place", x.place(), -1);
        x.cut(15);
        Check.same("no place until it is read", x.place(), -1);
        Check.same("fault at the end", x.read(), 3);
        Check.same("place of the end", x.place(), 15);
        Check.same("a cut that is refused", cut(x, 16), NO_ARGUMENT);
        Check.same("the place stays", x.place(), 15);
    }

    // Promise 7: "How many nodes there are." Text and cut leave what was read.
    private static void nodesUntilRead() {
        SourceTree x = Check.of("unit abc is end;");
        Check.same("before read", x.nodes(), 0);
        Check.same("read", x.read(), 0);
        Check.same("nodes", x.nodes(), 4);
        x.cut(5);
        Check.put(x, "xyz is _ ");
        Check.same("nodes stay until read", x.nodes(), 4);
        Check.same("names stay until read", x.names() + " " + Check.nameOf(x, 23), "24 abc");
        Check.same("a node stays until read", node(x, 2, 0) + " " + node(x, 2, 1), "70 23");
        Check.same("a fault", Check.read(x), "1 at 12");
        Check.same("no nodes", x.nodes(), 0);
        x.cut(12);
        Check.put(x, "end; unit abc is end;");
        Check.same("no nodes until read", x.nodes(), 0);
        Check.same("no names until read", x.names(), 23);
        Check.same("read again", Check.read(x), "0 at -1");
        Check.same("more nodes", x.nodes(), 7);
        Check.same("other names", Check.nameOf(x, 23) + " " + Check.nameOf(x, 24), "xyz abc");
    }

    // Promise 8: "IndexOutOfBoundsException when there is no such node; IllegalArgumentException when
    // what is none of these."
    private static void nodeBounds() {
        SourceTree x = Check.of("unit a is end;");
        x.read();
        String[] due = {"48 0 0", "48 0 0", "70 23 2", "74 0 1"};
        for (int i = 0; i < 4; i++) {
            Check.same("node " + i, node(x, i, 0) + " " + node(x, i, 1) + " " + node(x, i, 2), due[i]);
            for (int what : new int[] {-1, 3, 4, Integer.MIN_VALUE, Integer.MAX_VALUE}) {
                Check.same("node " + i + ", " + what, node(x, i, what), NO_ARGUMENT);
            }
        }
        // The last ones, times three, are again such as stand in the row.
        for (int i : new int[] {-1, 4, 5, 64, 16384, Integer.MIN_VALUE, Integer.MAX_VALUE, 0x55555556, 0xaaaaaaab}) {
            for (int what = -1; what <= 3; what++) {
                Check.same("node " + i + ", " + what, node(x, i, what), NO_INDEX);
            }
        }
        Check.same("the nodes stay", x.nodes(), 4);
    }

    private static void nodeOfNone() {
        SourceTree x = new SourceTree();
        for (int time = 0; time < 2; time++) {
            for (int what = -1; what <= 3; what++) {
                Check.same("no node, " + what, node(x, 0, what), NO_INDEX);
                Check.same("no node below, " + what, node(x, -1, what), NO_INDEX);
            }
            x.read();
        }
        SourceTree full = Check.of(RandomSource.filler(16383));
        full.read();
        Check.same("the last of all", node(full, 16383, 0), "74");
        Check.same("behind the last of all", node(full, 16384, 0), NO_INDEX);
        Check.same("the last of all, 3", node(full, 16383, 3), NO_ARGUMENT);
    }

    // Promises 9 and 10: "Character i of a name; NONE when there is none such.
    // IndexOutOfBoundsException when there is no such name."
    private static void nameBounds() {
        SourceTree x = Check.of("unit a is end; unit B_2c is end;");
        int[] none = {-1, -57, 25, 1000, Integer.MIN_VALUE, Integer.MAX_VALUE, Integer.MAX_VALUE - 57};
        for (int time = 0; time < 2; time++) {
            Check.same("names", x.names(), 23 + 2 * time);
            for (int n = 0; n < 23; n++) {
                nameIs(x, n, Check.FIRST_NAMES[n]);
            }
            for (int n : none) {
                for (int i : new int[] {-1, 0, 1, Integer.MIN_VALUE, Integer.MAX_VALUE}) {
                    Check.same("name " + n + ", " + i, name(x, n, i), NO_INDEX);
                }
            }
            Check.same("name 23 and 24", name(x, 23, 0) + " " + name(x, 24, 0),
                time == 0 ? NO_INDEX + " " + NO_INDEX : (int) 'a' + " " + (int) 'b');
            x.read();
        }
        nameIs(x, 23, "a");
        nameIs(x, 24, "b_2c");
    }

    private static void nameIs(SourceTree x, int n, String due) {
        for (int i = 0; i < due.length(); i++) {
            Check.same("name " + n + ", " + i, name(x, n, i), Integer.toString(due.charAt(i)));
        }
        for (int i : new int[] {-1, due.length(), due.length() + 1, Integer.MIN_VALUE, Integer.MAX_VALUE}) {
            Check.same("name " + n + ", " + i, name(x, n, i), "-1");
        }
    }

    // README.md: what its example shows is what the class answers.
    private static void exampleOfTheReadme() {
        SourceTree tree = new SourceTree();
        tree.text(0x756e6974, 0x20612069, 0x7320656e, 0x643b2020);
        tree.cut(14);
        Check.same("fault and place", Check.read(tree), "0 at -1");
        StringBuilder kinds = new StringBuilder();
        for (int i = 0; i < tree.nodes(); i++) {
            kinds.append(tree.node(i, 0)).append(' ');
        }
        Check.same("the row of nodes", kinds.toString(), "48 48 70 74 ");
        Check.same("the source's own name", tree.name(23, 0), 'a');
    }

    private static String text(SourceTree x, int bytes) {
        return Check.outcome(() -> {
            x.text(bytes, bytes, bytes, bytes);
            return 0;
        });
    }

    private static String cut(SourceTree x, int n) {
        return Check.outcome(() -> {
            x.cut(n);
            return 0;
        });
    }

    private static String node(SourceTree x, int i, int what) {
        return Check.outcome(() -> x.node(i, what));
    }

    private static String name(SourceTree x, int n, int i) {
        return Check.outcome(() -> x.name(n, i));
    }
}
