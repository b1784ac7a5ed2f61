import java.util.List;

/** Runs the tests of every heading of ../shared/DOC.md, and then asks whether each of its sentences has one. */
public final class DocumentTests {
    /** Sentences that say nothing that a call could answer. */
    private static final List<String> UNTESTED = List.of(
        "A tile is sent by a code.", "A frame is sent with a tolerance.", "---- the drawing.", "---- settings.", "---- frames.", "---- texts.",
        "---- history.", "---- what is told.", "traces of tiles, undo and a snapshot.");
    /** Headings whose lines are not promises: the face itself is asked for by LanguageTest. */
    private static final List<String> UNTESTED_HEADINGS = List.of("The public face", "Terms", "Not promised");

    private DocumentTests() {
    }

    public static void main(String[] args) {
        WhatItIsTests.tests();
        terms();
        promises();
        Tests.test("every sentence of ../shared/DOC.md has a test that is named by it", DocumentTests::eachSentence);
        Tests.end();
    }

    private static void terms() {
        PicturesTests.tests();
        SpiralTests.tests();
        CodesTests.tests();
        Heading sending = new Heading("SENDING");
        SendingTests.tests(sending);
        BudgetTests.tests(sending);
        ReceiverTests.tests();
        TextsTests.tests();
        LogTests.tests();
        HistoryTests.tests();
        ErrorsTests.tests();
    }

    private static void promises() {
        Promise01NewObject.tests();
        Promise02Set.tests();
        Promise03Fill.tests();
        Promise04Shift.tests();
        Promise05Paint.tests();
        Promise06SetNumber.tests();
        Promise07Send.tests();
        Promise08SendKeyed.tests();
        Promise09Type.tests();
        Promise10ClearText.tests();
        Promise11Undo.tests();
        Promise12Keep.tests();
        Promise13Restore.tests();
        Promise14Point.tests();
        Promise15Difference.tests();
        Promise16Spiral.tests();
        Promise17WouldCode.tests();
        Promise18WouldSpend.tests();
        Promise19WouldNeed.tests();
        Promise20Best.tests();
        Promise21Frame.tests();
        Promise22Sent.tests();
        Promise23Count.tests();
    }

    private static void eachSentence(Due due) {
        int sentences = 0;
        for (String heading : Doc.headings()) {
            if (UNTESTED_HEADINGS.contains(heading)) {
                continue;
            }
            for (String sentence : Doc.sentences(heading)) {
                sentences++;
                boolean isTested = Heading.isTested(heading, sentence) || UNTESTED.stream().anyMatch(sentence::endsWith);
                due.holds("a test under " + heading + " of \"" + sentence + "\"", isTested);
            }
        }
        due.holds("sentences are read: " + sentences, sentences > 100);
    }
}
