import java.io.IOException;

/**
 * Each sentence of the document has a test of its own in the classes named here: it says with holds() where the
 * sentence stands and how it goes on, and then calls what would answer otherwise if the sentence did not hold.
 */
public final class SentencesTest {
    public static void main(String[] args) throws IOException {
        Due due = new Due();
        new ConventionsSentences(due).run();
        new KeysSentences(due).run();
        new EdgesSentences(due).run();
        new CommitsSentences(due).run();
        new OrdersSentences(due).run();
        new ChangesSentences(due).run();
        new LooksSentences(due).run();
        new WhatIfSentences(due).run();
        new TextsSentences(due).run();
        new UndoSentences(due).run();
        due.holds("What it is", "An object is used for at most 512 calls after it has been made;");
        due.is("sentences that are not held", new Document().compare(due.heldSentences()), 0);
        due.end();
    }
}
