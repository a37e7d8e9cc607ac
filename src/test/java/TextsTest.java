/** Promises 22 to 24: put, wipe, fault. */
public final class TextsTest {
    private static final int BAD_TEXT = TinKitchen.BAD_TEXT;
    private static final int NONE = TinKitchen.NONE;
    private static final String TEN = "1234567890";

    public static void main(String[] arguments) {
        putAppends();
        textsAreNoChanges();
        wipeAnswersTheLength();
        faultsOfNumbers();
        faultsOfNames();
        faultsOfSteps();
        faultsOfStepsBefore();
        faultsOfTheEnd();
        goodTexts();
        faultChangesNothing();
        Check.end("TextsTest");
    }

    private static TinKitchen written() {
        TinKitchen kitchen = new TinKitchen();
        kitchen.ingredient(1);
        kitchen.save(0);
        Check.write(kitchen, "4a200;1");
        return kitchen;
    }

    private static TinKitchen full(int length) {
        TinKitchen kitchen = new TinKitchen();
        Check.write(kitchen, TEN.repeat(8).substring(0, length));
        return kitchen;
    }

    private static void putAppends() {
        TinKitchen kitchen = new TinKitchen();
        Check.due("put(1 character)", 1, kitchen.put('4'));
        Check.due("put(8 characters)", 9, kitchen.put(Check.number("a200b30;")));
        Check.due("put(3 characters)", 12, kitchen.put(Check.number("9/1")));
        Check.due("length", 12, kitchen.count(13));
        Check.due("fault()", NONE, kitchen.fault());
        kitchen.ingredient(1);
        kitchen.ingredient(1);
        kitchen.recipe();
        Check.due("in their order: portions", 4, kitchen.ofRecipe(0, 0));
        Check.due("in their order: amount of 0", 200, kitchen.ofRecipe(0, 3));
        Check.due("in their order: amount of 1", 30, kitchen.ofRecipe(0, 4));
        Check.due("in their order: duration", 9, kitchen.step(0, 0, 0));
        Check.due("put(33)", 1, kitchen.put(33));
        Check.due("put(126)", 2, kitchen.put(126));
    }

    private static void textsAreNoChanges() {
        TinKitchen kitchen = written();
        Check.due("recorded", 1, kitchen.count(14));
        kitchen.undo();
        Check.due("undo leaves the pad", 7, kitchen.count(13));
        kitchen.restore(0);
        Check.due("restore leaves the pad", 7, kitchen.count(13));
        Check.due("wipe()", 7, kitchen.wipe());
        Check.due("recorded", 1, kitchen.count(14));
        kitchen.undo();
        Check.due("undo leaves the empty pad", 0, kitchen.count(13));
    }

    private static void wipeAnswersTheLength() {
        TinKitchen kitchen = written();
        Check.due("wipe()", 7, kitchen.wipe());
        Check.due("length", 0, kitchen.count(13));
        Check.due("fault()", 0, kitchen.fault());
        Check.due("wipe() again", 0, kitchen.wipe());
        Check.due("put", 1, kitchen.put('3'));
        Check.due("fault() of 3", NONE, kitchen.fault());
        Check.due("wipe() of 80", 80, full(80).wipe());
    }

    private static void fault(String text, int due) {
        TinKitchen kitchen = new TinKitchen();
        for (int number = 0; number < 8; number++) {
            kitchen.ingredient(1);
        }
        Check.write(kitchen, text);
        Check.due("fault() of " + text, due, kitchen.fault());
        Check.due("recipe() of " + text, due == NONE ? 0 : BAD_TEXT, kitchen.recipe());
        Check.due("the pad behind recipe() of " + text, due == NONE ? 0 : text.length(), kitchen.count(13));
    }

    private static void faultsOfNumbers() {
        fault("0", 0);
        fault("01", 0);
        fault("x", 0);
        fault("a5", 0);
        fault(";5/1", 0);
        fault("21", 1);
        fault("200", 2);
        fault("30", 1);
        fault("1x", 1);
        fault("1a0", 2);
        fault("1a05", 2);
        fault("1a501", 4);
        fault("1a510", 4);
        fault("1a600", 4);
        fault("1a5000", 5);
        fault("1a1000", 5);
        fault("1a-5", 2);
        fault("1a9999999999999999999999", 4);
        fault("99999999999999999999999", 1);
        fault("1;0/1", 2);
        fault("1;241/1", 4);
        fault("1;250/1", 4);
        fault("1;2400/1", 5);
        fault("1;999", 4);
    }

    private static void faultsOfNames() {
        fault("1i5", 1);
        fault("1A5", 1);
        fault("1`5", 1);
        fault("1a5a5", 3);
        fault("1a5b6a7", 5);
        fault("1ab", 2);
        fault("1a;5/1", 2);
        fault("1h8g7f6e5d4c3b2a1h8", 17);
        fault("1h8g7f6e5d4c3b2a1a1", 17);
        fault("1;5/1a5", 5);
    }

    private static void faultsOfSteps() {
        fault("1;/1", 2);
        fault("1;;", 2);
        fault("1;5;", 3);
        fault("1;5*/1", 3);
        fault("1;5/4", 4);
        fault("1;5/9", 4);
        fault("1;5/*", 4);
        fault("1;5//", 4);
        fault("1;5/11", 5);
        fault("1;5/00", 5);
        fault("1;5/1**", 6);
        fault("1;5/1*5", 6);
        fault("1;5/1/", 5);
        fault("1" + ";5/1".repeat(8), NONE);
        fault("1" + ";5/1".repeat(9), 33);
        fault("1" + ";5/1".repeat(8) + ";", 33);
        fault("1" + ";5/1".repeat(8) + "x", 33);
    }

    private static void faultsOfStepsBefore() {
        fault("1;5/1@", 6);
        fault("1;5/1@0", 6);
        fault("1;5/1@x", 6);
        fault("1;5/1;5/1@1", 10);
        fault("1;5/1;5/1@0@0", 12);
        fault("1;5/1;5/1@0@1", 12);
        fault("1;5/1;5/1@00", 11);
        fault("1;5/1;5/1@0*", 11);
        fault("1;5/1;5/1*@0", NONE);
        fault("1;5/1;5/1;5/1@1@0@1", 18);
        fault("1" + ";5/1".repeat(8) + "@0@1@2@3@4@5@6", NONE);
        fault("1" + ";5/1".repeat(8) + "@0@1@2@3@4@5@6@", 48);
        fault("1" + ";5/1".repeat(8) + "@0@1@2@3@4@5@6@7", 48);
        fault("1" + ";5/1".repeat(8) + "@6@5@4@3@2@1@0@8", 48);
        fault("1" + ";5/1".repeat(8) + "@6@5@4@3@2@1@0@6", 48);
        fault("1" + ";5/1".repeat(8) + "@6@5@4@3@2@1@0;", 47);
    }

    private static void faultsOfTheEnd() {
        fault("", 0);
        fault("1a", 2);
        fault("20;", 3);
        fault("1a5;", 4);
        fault("1;5", 3);
        fault("1;24", 4);
        fault("1;240", 5);
        fault("1;5/", 4);
        fault("1;5/1;5/1@", 10);
        fault("1;5/1;5/1@0@", 12);
    }

    private static void goodTexts() {
        fault("1", NONE);
        fault("9", NONE);
        fault("10", NONE);
        fault("20", NONE);
        fault("1a500", NONE);
        fault("1a9h499", NONE);
        fault("1h1a1", NONE);
        fault("1;1/0", NONE);
        fault("1;240/3*", NONE);
        fault("1;239/2;199/1*@0", NONE);
        fault("19h500g1f20;100/0;10/0@0;9/3*@1@0", NONE);
    }

    private static void faultChangesNothing() {
        Check.unchanged(TextsTest::written, "fault()", 7, TinKitchen::fault);
        Check.unchanged(() -> full(80), "fault() of 80", 2, TinKitchen::fault);
        TinKitchen kitchen = new TinKitchen();
        Check.write(kitchen, "2a5;5/1");
        kitchen.ingredient(1);
        Check.due("fault()", NONE, kitchen.fault());
        Check.due("fault() again", NONE, kitchen.fault());
        Check.due("recipe()", 0, kitchen.recipe());
        Check.write(kitchen, "3a77;7/2;x");
        kitchen.fault();
        kitchen.recipe();
        Check.due("a bad text leaves the recipes: portions", 2, kitchen.ofRecipe(0, 0));
        Check.due("a bad text leaves the recipes: amount", 5, kitchen.ofRecipe(0, 3));
        Check.due("a bad text leaves the recipes: hands", 1, kitchen.step(0, 0, 1));
    }
}
