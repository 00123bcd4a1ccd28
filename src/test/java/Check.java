/** What the tests share: making texts, telling trees, counting wrong answers. */
final class Check {
    static final String[] FIRST_NAMES = ("integer natural positive boolean logic row true false rising falling"
        + " number bits ps ns us event active last length left right high low").split(" ");

    private static int wrong = 0;
    private static int checks = 0;

    private Check() {
    }

    static void same(String what, long got, long due) {
        checks++;
        if (got != due) {
            report(what + " answered " + got + ", due is " + due);
        }
    }

    static void same(String what, String got, String due) {
        checks++;
        if (!got.equals(due)) {
            report(what + "\n  answered " + got + "\n  due is   " + due);
        }
    }

    private static void report(String line) {
        wrong++;
        if (wrong <= 50) {
            System.out.println(line);
        }
    }

    /** Ends the test: exit code 1 if one answer was wrong. */
    static void end() {
        System.out.println(checks + " checks, " + wrong + " wrong");
        System.exit(wrong == 0 && checks > 0 ? 0 : 1);
    }

    /** A new object with that text. */
    static SourceTree of(String text) {
        SourceTree tree = new SourceTree();
        put(tree, text);
        return tree;
    }

    /** The text comes behind what the object has. */
    static void put(SourceTree tree, String text) {
        int due = tree.length() + text.length();
        for (int i = 0; i < text.length(); i += 16) {
            tree.text(four(text, i), four(text, i + 4), four(text, i + 8), four(text, i + 12));
        }
        tree.cut(due);
    }

    private static int four(String text, int from) {
        int bytes = 0;
        for (int i = from; i < from + 4; i++) {
            bytes = bytes << 8 | (i < text.length() ? text.charAt(i) & 255 : ' ');
        }
        return bytes;
    }

    /** The tree as kind:value(children ..), a value of 0 left out; or the fault and its place. */
    static String told(SourceTree tree) {
        int fault = tree.read();
        if (fault != 0) {
            return "fault " + fault + " at " + tree.place();
        }
        java.util.ArrayList<String> stack = new java.util.ArrayList<>();
        for (int i = 0; i < tree.nodes(); i++) {
            int children = tree.node(i, 2);
            StringBuilder s = new StringBuilder().append(tree.node(i, 0));
            if (tree.node(i, 1) != 0) {
                s.append(':').append(tree.node(i, 1));
            }
            if (children < 0 || children > stack.size()) {
                return "node " + i + " has " + children + " children of " + stack;
            }
            if (children > 0) {
                java.util.List<String> last = stack.subList(stack.size() - children, stack.size());
                s.append('(').append(String.join(" ", last)).append(')');
                last.clear();
            }
            stack.add(s.toString());
        }
        return String.join(" + ", stack);
    }

    /** The fault and its place. */
    static String read(SourceTree tree) {
        return tree.read() + " at " + tree.place();
    }

    static void good(String text) {
        same(text, read(of(text)), "0 at -1");
    }

    /** A source whose '@' marks where the fault is due; the '@' itself is left out of the text. */
    static void fault(int due, String marked) {
        int place = marked.indexOf('@');
        String text = marked.substring(0, place) + marked.substring(place + 1);
        same(text, read(of(text)), due + " at " + place);
    }

    /** What stands in a generic's expression, whose names begin with number 25. */
    static void expression(String text, String due) {
        same(text, told(of("unit u_0 is generic(g_0:logic:=" + text + "\n); end;")),
            "74(70:23(48(71:24(10:4 " + due + ")) 48))");
    }

    /** A call that may throw. */
    interface Call {
        int answer();
    }

    /** What the call answers, or the name of what it throws. */
    static String outcome(Call call) {
        try {
            return Integer.toString(call.answer());
        } catch (RuntimeException e) {
            return e.getClass().getSimpleName();
        }
    }

    static String nameOf(SourceTree tree, int n) {
        StringBuilder s = new StringBuilder();
        for (int i = 0; tree.name(n, i) != SourceTree.NONE; i++) {
            s.append((char) tree.name(n, i));
        }
        return s.toString();
    }
}
