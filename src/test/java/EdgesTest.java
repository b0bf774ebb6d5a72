/** Each sentence of the document that names a boundary case: see Edges. With the name of one sentence: that one alone. */
public final class EdgesTest {
    private EdgesTest() {
    }

    public static void main(String[] args) {
        if (args.length > 0) {
            int wrong = wrongOf(args[0]);
            System.out.println(args[0] + (wrong < 0 ? " is no sentence that is tested" : " | " + wrong + " not as due"));
            System.exit(wrong == 0 ? 0 : 1);
        }
        Edges edges = new Edges(null);
        run(edges);
        edges.close();
    }

    /** The names of all sentences. */
    static String[] names() {
        Edges edges = new Edges(null);
        run(edges);
        return edges.tested().toArray(new String[0]);
    }

    /** How many answers are not as due in the test of one sentence alone; -1: there is no such sentence. */
    static int wrongOf(String name) {
        Edges edges = new Edges(name);
        run(edges);
        return edges.tested().isEmpty() ? -1 : edges.wrong();
    }

    private static void run(Edges edges) {
        new TermsEdges(edges).run();
        new ToldEdges(edges).run();
        new TextEdges(edges).run();
        new BarnEdges(edges).run();
        new ThrowEdges(edges).run();
        new PartEdges(edges).run();
        new SellEdges(edges).run();
        new PassEdges(edges).run();
        new SeedEdges(edges).run();
        new KeptEdges(edges).run();
    }
}
