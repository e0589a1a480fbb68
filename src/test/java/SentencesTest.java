import java.io.IOException;
import java.util.ArrayList;
import java.util.List;

/**
 * The document, sentence by sentence: what each says of a value too small or too large, of what is
 * empty or full, of a wrap-around and of a refused call. A wrong answer is printed with the promise and
 * the sentence that it breaks.
 */
public final class SentencesTest {
    private static final Check CHECK = new Check("sentences");

    public static void main(String[] args) throws IOException {
        List<Section> sections = new ArrayList<>();
        sections.addAll(TermsSentences.all());
        sections.addAll(KindSentences.all());
        sections.addAll(LoaderSentences.all());
        sections.addAll(TellingSentences.all());
        sections.addAll(NeedingSentences.all());
        sections.addAll(AskingSentences.all());
        sections.addAll(AlikeSentences.all());
        for (Section section : sections) {
            for (Section.Sentence sentence : section.sentences()) {
                run(section, sentence);
            }
        }
        if (Document.isThere()) {
            quotesAreTrue(sections, new Document());
            noSentenceIsLeftOut(sections, new Document());
        } else {
            System.out.println("../shared/DOC.md is not there: the quotes were not looked up");
        }
        CHECK.end();
    }

    private static String nameOf(Section section, Section.Sentence sentence) {
        return section.heading() + ", \"" + sentence.quote() + "\", " + sentence.edge();
    }

    private static void run(Section section, Section.Sentence sentence) {
        Check check = new Check(nameOf(section, sentence));
        try {
            sentence.test().accept(check);
        } catch (RuntimeException | StackOverflowError thrown) {
            check.holds("no call throws, but there came " + thrown, false);
        }
        CHECK.holds(nameOf(section, sentence) + ": holds", check.isGood());
    }

    private static void quotesAreTrue(List<Section> sections, Document document) {
        for (Section section : sections) {
            for (Section.Sentence sentence : section.sentences()) {
                String name = nameOf(section, sentence);
                CHECK.holds(name + ": is so in the document", document.says(section.heading(), sentence.quote()));
            }
        }
    }

    private static void noSentenceIsLeftOut(List<Section> sections, Document document) {
        for (String heading : document.promisingHeadings()) {
            for (String text : document.sentencesOf(heading)) {
                CHECK.holds(heading + ", \"" + text + "\": has a test", isQuoted(sections, heading, text));
            }
        }
    }

    private static boolean isQuoted(List<Section> sections, String heading, String text) {
        return sections.stream().filter(section -> section.heading().equals(heading))
            .flatMap(section -> section.sentences().stream())
            .anyMatch(sentence -> text.contains(sentence.quote()));
    }
}
