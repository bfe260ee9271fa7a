import java.io.IOException;
import java.nio.file.Path;

/** Each sentence of the document, quoted by its words, with its edges; a sentence that no test quotes is a fault. */
public final class EdgesTest {
    public static void main(String[] args) throws IOException {
        Book book = new Book(Path.of("../shared/DOC.md"));
        new EdgesOfTerms(book).tell();
        new EdgesOfHouse(book).tell();
        new EdgesOfValues(book).tell();
        new EdgesOfWhatIf(book).tell();
        new EdgesOfText(book).tell();
        new EdgesOfState(book).tell();
        book.close();
    }
}
