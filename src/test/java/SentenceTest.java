import java.io.IOException;
import java.nio.file.Path;

/** Every sentence of the document has a test that names it: chapter by chapter, then those that no test named. */
public final class SentenceTest extends Chapter {
    public static void main(String[] args) throws IOException {
        Document document = new Document(Path.of("../shared/DOC.md"));
        of(document);
        TermsChapter.read();
        LakeChapter.read();
        PlanChapter.read();
        SearchChapter.read();
        ReadingChapter.read();
        SheetChapter.read();
        PartsChapter.read();
        for (String sentence : document.unnamed()) {
            wrong++;
            System.out.println("no test names: " + sentence);
        }
        end("all sentences are named, and hold: " + sentences + " tests, " + looks + " looks");
    }
}
