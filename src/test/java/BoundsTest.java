/** The document, sentence by sentence: each that names a boundary case has a test of its own. */
public final class BoundsTest {
    public static void main(String[] args) {
        Check check = new Check();
        Sentences s = new Sentences(check);
        Part[] parts = {new TermsBounds(check, s), new SwitchesBounds(check, s), new WhoGetsWhatBounds(check, s),
            new WhatCameOfItBounds(check, s), new WhatWouldBeBounds(check, s)};
        for (Part each : parts) {
            each.goThrough();
        }
        s.end();
        check.end();
    }
}
