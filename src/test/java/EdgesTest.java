import java.nio.file.Path;
import java.nio.file.Paths;

/** Each sentence of the document has a case of its own, and holds. */
public final class EdgesTest {
    private EdgesTest() {
    }

    public static void main(String[] args) throws Exception {
        Path file = Paths.get(args.length > 0 ? args[0] : "../shared/DOC.md");
        Doc doc = new Doc(file);
        Edges[] all = {
            new StageEdges(doc), new BlockEdges(doc), new RoundEdges(doc), new RunEdges(doc), new StepEdges(doc),
            new WishEdges(doc), new LeastEdges(doc), new TextEdges(doc), new SheetEdges(doc), new AnswerEdges(doc)};
        int cases = 0;
        int failed = 0;
        for (Edges edges : all) {
            edges.run();
            cases += edges.cases();
            failed += edges.failed();
        }
        // 39 promises, 6 terms, and the paragraphs of the answers, the constants and the limit.
        if (doc.sections() != 48) System.out.println("the document has " + doc.sections() + " sections");
        for (String rest : doc.untold()) System.out.println("no case is about " + rest);
        boolean whole = doc.sections() == 48 && doc.untold().isEmpty();
        System.out.println((cases - failed) + " of " + cases + " sentences hold" + (whole ? "" : "; not all have a case"));
        if (failed != 0 || !whole) System.exit(1);
    }
}
