/** All that the document says of what the class does, sentence by sentence, its edges and refusals first of all. */
public final class SentencesTest {
    public static void main(String[] args) {
        Sentences s = new Sentences();
        new SentencesOfHedge(s).all();
        new SentencesOfSounding(s).all();
        new SentencesOfTelling(s).all();
        new SentencesOfShelves(s).all();
        s.end();
    }
}
