/** Promises 1 to 10 call by call: what a new object answers, edges and wrong inputs. */
public final class FaceTest {
    public static void main(String[] args) {
        newObject();
        textAndCut();
        textLimit();
        readKeepsAndForgets();
        nodeArguments();
        nameArguments();
        bytesAreHighestFirst();
        Check.end();
    }

    private static void newObject() {
        SourceTree x = new SourceTree();
        Check.same("NONE", SourceTree.NONE, -1);
        Check.same("new length", x.length(), 0);
        Check.same("new place", x.place(), -1);
        Check.same("new nodes", x.nodes(), 0);
        Check.same("new names", x.names(), 23);
        String[] first = ("integer natural positive boolean logic row true false rising falling number bits"
            + " ps ns us event active last length left right high low").split(" ");
        for (int n = 0; n < first.length; n++) {
            Check.same("first name " + n, Check.nameOf(x, n), first[n]);
        }
        Check.same("empty read", x.read(), 3);
        Check.same("empty place", x.place(), 0);
    }

    private static void textAndCut() {
        SourceTree x = Check.of("unit a is end;");
        Check.same("length", x.length(), 14);
        Check.same("cut 15", cut(x, 15), "IllegalArgumentException");
        Check.same("cut -1", cut(x, -1), "IllegalArgumentException");
        Check.same("cut least", cut(x, Integer.MIN_VALUE), "IllegalArgumentException");
        Check.same("cut greatest", cut(x, Integer.MAX_VALUE), "IllegalArgumentException");
        Check.same("length stays", x.length(), 14);
        Check.same("cut 14", cut(x, 14), "");
        Check.same("read whole", x.read(), 0);
        Check.same("cut 13", cut(x, 13), "");
        Check.same("read cut", x.read(), 3);
        Check.same("place cut", x.place(), 13);
        Check.put(x, " ; ");
        Check.same("length again", x.length(), 16);
        Check.same("read again", x.read(), 0);
        Check.same("cut 0", cut(x, 0), "");
        Check.same("length none", x.length(), 0);
        Check.same("cut 1 of none", cut(x, 1), "IllegalArgumentException");
    }

    private static void textLimit() {
        SourceTree x = new SourceTree();
        int blanks = 0x20202020;
        for (int i = 0; i < 1024; i++) {
            Check.same("text " + i, text(x, blanks), "");
        }
        Check.same("full", x.length(), 16384);
        Check.same("text over", text(x, blanks), "IllegalStateException");
        Check.same("still full", x.length(), 16384);
        x.cut(16369);
        Check.same("text over by one", text(x, blanks), "IllegalStateException");
        Check.same("unchanged", x.length(), 16369);
        x.cut(16368);
        Check.same("text just fits", text(x, blanks), "");
        Check.same("full again", x.length(), 16384);
        Check.same("read of blanks", x.read(), 3);
        Check.same("place of blanks", x.place(), 16384);
    }

    private static void readKeepsAndForgets() {
        SourceTree x = Check.of("unit abc is end;");
        Check.same("read", x.read(), 0);
        Check.same("place", x.place(), -1);
        Check.same("nodes", x.nodes(), 4);
        Check.same("names", x.names(), 24);
        x.cut(5);
        Check.put(x, "xyz is @ ");
        Check.same("nodes stay until read", x.nodes(), 4);
        Check.same("names stay until read", Check.nameOf(x, 23), "abc");
        Check.same("place stays until read", x.place(), -1);
        Check.same("faulty read", x.read(), 1);
        Check.same("faulty place", x.place(), 12);
        Check.same("faulty nodes", x.nodes(), 0);
        Check.same("faulty names", x.names(), 23);
        Check.same("name 23 gone", name(x, 23, 0), "IndexOutOfBoundsException");
        Check.same("text stays", x.length(), 14);
        x.cut(12);
        Check.same("place stays after cut", x.place(), 12);
        Check.put(x, "end;");
        Check.same("good read", x.read(), 0);
        Check.same("good place", x.place(), -1);
        Check.same("good name", Check.nameOf(x, 23), "xyz");
        Check.same("read twice", x.read(), 0);
        Check.same("nodes twice", x.nodes(), 4);
        Check.same("names twice", x.names(), 24);
    }

    private static void nodeArguments() {
        SourceTree x = Check.of("unit a is end;");
        Check.same("no node yet", node(x, 0, 0), "IndexOutOfBoundsException");
        x.read();
        Check.same("kind", node(x, 2, 0), "70");
        Check.same("value", node(x, 2, 1), "23");
        Check.same("children", node(x, 2, 2), "2");
        Check.same("last", node(x, 3, 0), "74");
        Check.same("behind last", node(x, 4, 0), "IndexOutOfBoundsException");
        Check.same("below", node(x, -1, 0), "IndexOutOfBoundsException");
        Check.same("greatest", node(x, Integer.MAX_VALUE, 0), "IndexOutOfBoundsException");
        Check.same("least", node(x, Integer.MIN_VALUE, 0), "IndexOutOfBoundsException");
        Check.same("wraps", node(x, 1431655766, 0), "IndexOutOfBoundsException");
        Check.same("what 3", node(x, 0, 3), "IllegalArgumentException");
        Check.same("what -1", node(x, 0, -1), "IllegalArgumentException");
        Check.same("what greatest", node(x, 3, Integer.MAX_VALUE), "IllegalArgumentException");
        Check.same("both wrong", node(x, 4, 3), "IndexOutOfBoundsException");
    }

    private static void nameArguments() {
        SourceTree x = Check.of("UNIT A_b2 IS END A_B2;");
        Check.same("read", x.read(), 0);
        Check.same("small letters", Check.nameOf(x, 23), "a_b2");
        Check.same("behind its end", name(x, 23, 4), "-1");
        Check.same("far behind", name(x, 23, Integer.MAX_VALUE), "-1");
        Check.same("before", name(x, 23, -1), "-1");
        Check.same("least", name(x, 23, Integer.MIN_VALUE), "-1");
        Check.same("no name", name(x, 24, 0), "IndexOutOfBoundsException");
        Check.same("no name below", name(x, -1, 0), "IndexOutOfBoundsException");
        Check.same("no name, greatest", name(x, Integer.MAX_VALUE, 0), "IndexOutOfBoundsException");
        Check.same("no name, least", name(x, Integer.MIN_VALUE, -1), "IndexOutOfBoundsException");
    }

    private static void bytesAreHighestFirst() {
        SourceTree x = new SourceTree();
        x.text(0x756e6974, 0x20612069, 0x7320656e, 0x643bff80);
        Check.same("high characters are no tokens", x.read(), 1);
        Check.same("place of 255", x.place(), 14);
        x.cut(14);
        Check.same("bytes in order", x.read(), 0);
    }

    private static String text(SourceTree x, int bytes) {
        try {
            x.text(bytes, bytes, bytes, bytes);
            return "";
        } catch (RuntimeException e) {
            return e.getClass().getSimpleName();
        }
    }

    private static String cut(SourceTree x, int n) {
        try {
            x.cut(n);
            return "";
        } catch (RuntimeException e) {
            return e.getClass().getSimpleName();
        }
    }

    private static String node(SourceTree x, int i, int what) {
        try {
            return Integer.toString(x.node(i, what));
        } catch (RuntimeException e) {
            return e.getClass().getSimpleName();
        }
    }

    private static String name(SourceTree x, int n, int i) {
        try {
            return Integer.toString(x.name(n, i));
        } catch (RuntimeException e) {
            return e.getClass().getSimpleName();
        }
    }
}
