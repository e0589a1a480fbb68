import java.util.ArrayList;
import java.util.List;
import java.util.function.Consumer;

/** The tests of one section of the document, each with the sentence that it would catch broken. */
final class Section {
    /** A test, by the words of the document that it holds the class to and the edge that it stands on. */
    record Sentence(String quote, String edge, Consumer<Check> test) { }

    private final String heading;
    private final List<Sentence> sentences = new ArrayList<>();

    Section(String heading) {
        this.heading = heading;
    }

    void test(String quote, String edge, Consumer<Check> test) {
        sentences.add(new Sentence(quote, edge, test));
    }

    String heading() {
        return heading;
    }

    List<Sentence> sentences() {
        return sentences;
    }
}
