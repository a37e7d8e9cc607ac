/** Promise 1, and the constants of the face. */
public final class ConstantsTest {
    public static void main(String[] arguments) {
        Check.due("NO_SUCH", -1, TinKitchen.NO_SUCH);
        Check.due("BAD_VALUE", -2, TinKitchen.BAD_VALUE);
        Check.due("BAD_TEXT", -3, TinKitchen.BAD_TEXT);
        Check.due("TOO_MANY", -4, TinKitchen.TOO_MANY);
        Check.due("NOT_POSSIBLE", -5, TinKitchen.NOT_POSSIBLE);
        Check.due("NONE", -6, TinKitchen.NONE);
        aNewKitchenIsEmpty();
        twoKitchensShareNothing();
        Check.end("ConstantsTest");
    }

    private static void aNewKitchenIsEmpty() {
        TinKitchen kitchen = new TinKitchen();
        int[] counts = {0, 0, 0, 2, 0, 0, 0, 0, 0, 0, 0, 0, 0, 0, 0};
        for (int what = 0; what < counts.length; what++) {
            Check.due("new: count(" + what + ")", counts[what], kitchen.count(what));
        }
        Check.due("new: about(0, 0)", TinKitchen.NO_SUCH, kitchen.about(0, 0));
        Check.due("new: ofRecipe(0, 0)", TinKitchen.NO_SUCH, kitchen.ofRecipe(0, 0));
        Check.due("new: fault()", 0, kitchen.fault());
        Check.due("new: undo()", TinKitchen.NOT_POSSIBLE, kitchen.undo());
        Check.due("new: restore(0)", TinKitchen.NOT_POSSIBLE, kitchen.restore(0));
        Check.due("new: restore(1)", TinKitchen.NOT_POSSIBLE, kitchen.restore(1));
    }

    private static void twoKitchensShareNothing() {
        TinKitchen one = new TinKitchen();
        TinKitchen other = new TinKitchen();
        one.ingredient(3);
        one.put(Check.number("1"));
        one.save(0);
        Check.due("other: count(1)", 0, other.count(1));
        Check.due("other: count(13)", 0, other.count(13));
        Check.due("other: count(14)", 0, other.count(14));
        Check.due("other: restore(0)", TinKitchen.NOT_POSSIBLE, other.restore(0));
    }
}
