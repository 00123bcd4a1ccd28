/** What the tests share: making texts, telling trees, counting wrong answers. */
final class Check {
    private static int wrong = 0;
    private static int checks = 0;

    private Check() {
    }

    static void same(String what, long got, long due) {
        checks++;
        if (got != due) {
            report(what + " answered " + got + ", due is " + due);
        }
    }

    static void same(String what, String got, String due) {
        checks++;
        if (!got.equals(due)) {
            report(what + "\n  answered " + got + "\n  due is   " + due);
        }
    }

    private static void report(String line) {
        wrong++;
        if (wrong <= 50) {
            System.out.println(line);
        }
    }

    /** Ends the test: exit code 1 if one answer was wrong. */
    static void end() {
        System.out.println(checks + " checks, " + wrong + " wrong");
        System.exit(wrong == 0 && checks > 0 ? 0 : 1);
    }

    /** A new object with that text. */
    static SourceTree of(String text) {
        SourceTree tree = new SourceTree();
        put(tree, text);
        return tree;
    }

    /** The text comes behind what the object has. */
    static void put(SourceTree tree, String text) {
        int due = tree.length() + text.length();
        for (int i = 0; i < text.length(); i += 16) {
            tree.text(four(text, i), four(text, i + 4), four(text, i + 8), four(text, i + 12));
        }
        tree.cut(due);
    }

    private static int four(String text, int from) {
        int bytes = 0;
        for (int i = from; i < from + 4; i++) {
            bytes = bytes << 8 | (i < text.length() ? text.charAt(i) & 255 : ' ');
        }
        return bytes;
    }

    /** The tree as kind:value(children ..), a value of 0 left out; or the fault and its place. */
    static String told(SourceTree tree) {
        int fault = tree.read();
        if (fault != 0) {
            return "fault " + fault + " at " + tree.place();
        }
        java.util.ArrayList<String> stack = new java.util.ArrayList<>();
        for (int i = 0; i < tree.nodes(); i++) {
            int children = tree.node(i, 2);
            StringBuilder s = new StringBuilder().append(tree.node(i, 0));
            if (tree.node(i, 1) != 0) {
                s.append(':').append(tree.node(i, 1));
            }
            if (children > stack.size()) {
                return "node " + i + " has more children than came: " + stack;
            }
            if (children > 0) {
                java.util.List<String> last = stack.subList(stack.size() - children, stack.size());
                s.append('(').append(String.join(" ", last)).append(')');
                last.clear();
            }
            stack.add(s.toString());
        }
        return String.join(" + ", stack);
    }

    static String nameOf(SourceTree tree, int n) {
        StringBuilder s = new StringBuilder();
        for (int i = 0; tree.name(n, i) != SourceTree.NONE; i++) {
            s.append((char) tree.name(n, i));
        }
        return s.toString();
    }
}
