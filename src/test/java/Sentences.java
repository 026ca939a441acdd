import java.util.Map;

/**
 * Goes through the document sentence by sentence. Each sentence that names a boundary case is quoted here with a test
 * of its own, each other one is quoted as plain; a sentence that is quoted nowhere, or that the document does not have,
 * counts as wrong.
 */
final class Sentences {
    private final Check check;
    private final Map<String, String> sections = Document.sections();
    private String heading = "";
    private String left = "";
    private int tested;

    Sentences(Check check) {
        this.check = check;
    }

    /** Goes on to the text under a heading. */
    void in(String newHeading) {
        endHeading();
        heading = newHeading;
        check.about(heading);
        check.due("the document has this heading, not gone through yet", sections.containsKey(heading), true);
        // What a call looks like is the matter of FaceTest.
        left = sections.containsKey(heading) ? sections.remove(heading).replaceFirst("^\\s*`[^`]*`:", "") : "";
    }

    /** For what is looked at elsewhere. */
    void skip(String otherHeading) {
        in(otherHeading);
        left = "";
    }

    void plain(String... sentences) {
        for (String each : sentences) {
            quote(each);
        }
    }

    void holds(String sentence, Runnable test) {
        quote(sentence);
        int wrong = check.wrong();
        int looked = check.looked();
        test.run();
        check.due("answers are looked at", check.looked() > looked, true);
        tested++;
        if (check.wrong() > wrong) {
            System.out.println("BROKEN: " + heading + ", \"" + sentence + "\"");
        }
    }

    void end() {
        endHeading();
        check.about("the document");
        check.dueText("the headings that nobody went through", sections.keySet().toString(), "[]");
        System.out.println(tested + " sentences with a boundary case, each with a test of its own");
    }

    private void quote(String sentence) {
        check.about(heading + ", \"" + sentence + "\"");
        int at = left.indexOf(sentence);
        check.due("the document says that", at >= 0, true);
        if (at >= 0) {
            left = left.substring(0, at) + left.substring(at + sentence.length());
        }
    }

    private void endHeading() {
        check.about(heading);
        check.dueText("what is quoted nowhere", left.strip(), "");
    }
}
