/**
 * For each sentence of the document that names a bound a test of its own: the last value that is taken and
 * the first that is refused, what is empty and what is full, and each refused call.
 */
public final class BoundsTest {
    public static void main(String[] arguments) {
        TermBounds.run();
        MenuBounds.run();
        TimeBounds.run();
        IngredientBounds.run();
        RecipeBounds.run();
        QuestionBounds.run();
        WhatIfBounds.run();
        TextBounds.run();
        HistoryBounds.run();
        sentencesWithoutBounds();
        Document.allAreNamed();
        Check.end("BoundsTest");
    }

    private static void sentencesWithoutBounds() {
        Document.noBound("What it is", "A kitchen that cooks menus", "what later calls answer is free");
        // FaceTest has all of it
        Document.noBounds("The public face");
        Document.noBound("Terms", "CONVENTIONS", "other divisions are rounded down", "Weights are in grams");
        Document.noBound("Texts", "Ahead of the calls");
        Document.noBounds("Not promised");
    }
}
