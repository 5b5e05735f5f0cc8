import java.io.IOException;

/** Every sentence of the document that names a boundary case: at it, and one beyond it on each side. */
public final class SentenceTest {
    private SentenceTest() {
    }

    public static void main(String[] args) throws IOException {
        Sheet sheet = new Sheet();
        new StockSentences(sheet).all();
        new RoastSentences(sheet).all();
        new TextSentences(sheet).all();
        new BlendSentences(sheet).all();
        new CupSentences(sheet).all();
        new BestSentences(sheet).all();
        new FirstPromises(sheet).all();
        new LastPromises(sheet).all();
        sheet.allSaid("What it is");
        sheet.allSaid("Terms");
        sheet.allSaid("Promise");
        sheet.end();
    }
}
