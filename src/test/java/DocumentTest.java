/** The document from its first line to its last: each sentence is quoted, with cases that would show that it is broken. */
public final class DocumentTest {
    private DocumentTest() {
    }

    public static void main(String[] args) {
        Due due = new Due();
        Document document = new Document(due);
        new DocumentTerms(document).goThrough();
        new DocumentPromises(document).goThrough();
        document.end();
        due.end();
    }
}
