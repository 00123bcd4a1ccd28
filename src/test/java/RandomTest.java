import java.util.Random;

/** Random sources (the same ones in every run): whole trees, beginnings of them, and the nodes' limit. */
public final class RandomTest {
    private static final int SOURCES = 3000;
    private static final int LONGEST = 15000;

    public static void main(String[] args) {
        Random random = new Random(7);
        SourceTree used = new SourceTree();
        for (int seed = 0; seed < SOURCES; seed++) {
            RandomSource source = new RandomSource(seed, 5 + seed % 150);
            source.file();
            if (source.text.length() > LONGEST || source.nodes.size() > 16384) {
                continue;
            }
            wholeTree("source " + seed, source, used);
            beginning("source " + seed, source, random.nextInt(source.places.size()));
            nodeLimit("source " + seed, source, random.nextInt(source.nodes.size()));
        }
        Check.end();
    }

    private static void wholeTree(String what, RandomSource source, SourceTree x) {
        x.cut(0);
        Check.put(x, source.text.toString());
        int fault = x.read();
        Check.same(what + ", fault at " + x.place() + " of " + (fault == 0 ? "" : source.text), fault, 0);
        Check.same(what + ", place", x.place(), -1);
        Check.same(what + ", nodes", x.nodes(), source.nodes.size());
        for (int i = 0; i < Math.min(x.nodes(), source.nodes.size()); i++) {
            int[] due = source.nodes.get(i);
            Check.same(what + ", kind of node " + i, x.node(i, 0), due[0]);
            Check.same(what + ", value of node " + i, x.node(i, 1), due[1]);
            Check.same(what + ", children of node " + i, x.node(i, 2), due[2]);
        }
        Check.same(what + ", names", x.names(), source.names.size());
        for (int n = 0; n < Math.min(x.names(), source.names.size()); n++) {
            Check.same(what + ", name " + n, Check.nameOf(x, n), source.names.get(n));
        }
    }

    /** The tokens before one of them are a source, or go on to one, so that the fault is their end. */
    private static void beginning(String what, RandomSource source, int tokens) {
        int end = source.places.get(tokens);
        SourceTree x = Check.of(source.text.substring(0, end));
        boolean whole = source.ends.contains(tokens);
        Check.same(what + ", fault of its first " + tokens, x.read(), whole ? 0 : 3);
        Check.same(what + ", place of its first " + tokens, x.place(), whole ? -1 : end);
    }

    /** With so many nodes before the source that this one of it is the 16385th. */
    private static void nodeLimit(String what, RandomSource source, int node) {
        String filler = RandomSource.filler(16384 - node);
        if (filler.length() + source.text.length() > LONGEST) {
            return;
        }
        SourceTree x = Check.of(filler + source.text);
        int tokens = source.nodes.get(node)[3];
        int due = tokens < source.places.size() ? source.places.get(tokens) : source.text.length();
        Check.same(what + ", limit at node " + node, x.read(), 4);
        Check.same(what + ", place of node " + node, x.place() - filler.length(), due);
    }
}
