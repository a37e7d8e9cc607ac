/** Promises 2 to 6: ingredient, tin, buyable, substitute, stock. */
public final class IngredientsTest {
    private static final int NONE = TinKitchen.NONE;

    public static void main(String[] arguments) {
        ingredientsAreNumbered();
        tinsAreKinds();
        buyableAnswersThePrevious();
        substituteAnswersThePrevious();
        stockJoinsLots();
        Check.end("IngredientsTest");
    }

    /** Three ingredients; 0 has a kind of tins, a substitute and a lot. */
    private static TinKitchen three() {
        TinKitchen kitchen = new TinKitchen();
        kitchen.ingredient(4);
        kitchen.ingredient(1);
        kitchen.ingredient(30);
        kitchen.tin(0, 100, 40);
        kitchen.substitute(0, 2, 150);
        kitchen.stock(0, 300);
        return kitchen;
    }

    private static void ingredientsAreNumbered() {
        TinKitchen kitchen = new TinKitchen();
        int[] days = {1, 30, 15, 2, 3, 4, 5, 6};
        for (int number = 0; number < 8; number++) {
            Check.due("ingredient(" + days[number] + ")", number, kitchen.ingredient(days[number]));
            Check.due("count(1)", number + 1, kitchen.count(1));
            Check.due("about(.., 0)", days[number], kitchen.about(number, 0));
        }
        int[] fresh = {1, 1, 0, NONE, NONE, 0, 0, NONE, 0, 0, 0, 0};
        for (int what = 1; what < 12; what++) {
            Check.due("new ingredient: about(0, " + what + ")", fresh[what], kitchen.about(0, what));
        }
        Check.due("recorded", 6, kitchen.count(14));
    }

    private static void tinsAreKinds() {
        TinKitchen kitchen = three();
        Check.due("tin(1, 50, 999)", 1, kitchen.tin(1, 50, 999));
        Check.due("tin(1, 2000, 1)", 2, kitchen.tin(1, 2000, 1));
        Check.due("tin(1, 100, 1)", 3, kitchen.tin(1, 100, 1));
        Check.due("kinds of 1", 3, kitchen.about(1, 2));
        Check.due("kinds of 0", 1, kitchen.about(0, 2));
        Check.due("size of kind 1", 2000, kitchen.ofTin(1, 1, 0));
        Check.due("price of kind 0", 999, kitchen.ofTin(1, 0, 1));
        Check.due("price of kind 2", 1, kitchen.ofTin(1, 2, 1));
        Check.due("tin(0, 101, 40)", 2, kitchen.tin(0, 101, 40));
        kitchen.undo();
        Check.due("undone kinds of 0", 1, kitchen.about(0, 2));
    }

    private static void buyableAnswersThePrevious() {
        TinKitchen kitchen = three();
        Check.due("buyable(2, 0)", 1, kitchen.buyable(2, 0));
        Check.due("about(2, 1)", 0, kitchen.about(2, 1));
        Check.due("about(1, 1)", 1, kitchen.about(1, 1));
        Check.due("buyable(2, 0) again", 0, kitchen.buyable(2, 0));
        Check.due("buyable(2, 1)", 0, kitchen.buyable(2, 1));
        Check.due("buyable(2, 1) again", 1, kitchen.buyable(2, 1));
        Check.due("about(2, 1)", 1, kitchen.about(2, 1));
        Check.due("recorded", 6, kitchen.count(14));
    }

    private static void substituteAnswersThePrevious() {
        TinKitchen kitchen = three();
        Check.due("about(0, 4)", 150, kitchen.about(0, 4));
        Check.due("substitute(0, 1, 10)", 2, kitchen.substitute(0, 1, 10));
        Check.due("substitute(0, 2, 200)", 1, kitchen.substitute(0, 2, 200));
        Check.due("about(0, 3)", 2, kitchen.about(0, 3));
        Check.due("about(0, 4)", 200, kitchen.about(0, 4));
        Check.due("substitute(0, NONE, 100)", 2, kitchen.substitute(0, NONE, 100));
        Check.due("about(0, 3)", NONE, kitchen.about(0, 3));
        Check.due("about(0, 4)", NONE, kitchen.about(0, 4));
        Check.due("substitute(0, NONE, 0)", NONE, kitchen.substitute(0, NONE, 0));
        Check.due("substitute(2, NONE, 201)", NONE, kitchen.substitute(2, NONE, 201));
        Check.due("substitute(1, 2, 10)", NONE, kitchen.substitute(1, 2, 10));
    }

    private static void stockJoinsLots() {
        TinKitchen kitchen = three();
        Check.due("stock(0, 1)", 301, kitchen.stock(0, 1));
        Check.due("lots of 0", 1, kitchen.about(0, 6));
        Check.due("first day of 0", 4, kitchen.about(0, 7));
        kitchen.pass(1);
        Check.due("stock(0, 20000)", 20301, kitchen.stock(0, 20000));
        Check.due("lots of 0", 2, kitchen.about(0, 6));
        Check.due("first day of 0", 4, kitchen.about(0, 7));
        Check.due("put into 0", 20301, kitchen.about(0, 11));
        Check.due("stock(2, 7)", 7, kitchen.stock(2, 7));
        Check.due("first day of 2", 31, kitchen.about(2, 7));
        Check.due("stock of 0", 20301, kitchen.about(0, 5));
        Check.due("bought of 0", 0, kitchen.about(0, 8));
    }
}
