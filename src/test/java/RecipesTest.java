/** Promises 7 to 12: recipe, amount, menu, hands, cook, pass. */
public final class RecipesTest {
    private static final int NO_SUCH = TinKitchen.NO_SUCH;
    private static final int NOT_POSSIBLE = TinKitchen.NOT_POSSIBLE;
    private static final int NONE = TinKitchen.NONE;

    public static void main(String[] arguments) {
        recipeIsRead();
        amountAnswersThePrevious();
        menuAnswersThePrevious();
        handsAnswerThePrevious();
        cookUsesThePantryFirst();
        cookUsesWhatSpoilsFirst();
        cookUsesWhatWasJustPutIn();
        cookPutsLeftoversIntoThePantry();
        cookKeepsAccounts();
        cookNeedsPortionsAndAllThings();
        cookDoesNotLookAtHands();
        passThrowsAway();
        passGoesRoundTheDays();
        Check.end("RecipesTest");
    }

    /** Two ingredients with tins, and a recipe of both in the menu. */
    private static TinKitchen two() {
        TinKitchen kitchen = new TinKitchen();
        kitchen.ingredient(3);
        kitchen.ingredient(5);
        kitchen.tin(0, 100, 40);
        kitchen.tin(1, 500, 99);
        Check.recipe(kitchen, "4a200b30;10/1;20/2*@0");
        kitchen.menu(0, 6);
        return kitchen;
    }

    private static void recipeIsRead() {
        TinKitchen kitchen = two();
        Check.due("recipe", 1, Check.recipe(kitchen, "20b500;240/3*;1/0@0"));
        Check.due("the pad is empty", 0, kitchen.count(13));
        Check.due("recipes", 2, kitchen.count(2));
        int[] numbers = {20, 2, 0, 0, 500, 0, 0, 0, 0, 0, 0};
        for (int what = 0; what < numbers.length; what++) {
            Check.due("ofRecipe(1, " + what + ")", numbers[what], kitchen.ofRecipe(1, what));
        }
        int[][] steps = {{240, 3, 0, 1, NONE, NONE}, {1, 0, 1, 0, NONE, NONE}};
        for (int step = 0; step < 2; step++) {
            for (int what = 0; what < 6; what++) {
                Check.due("step(1, " + step + ", " + what + ")", steps[step][what], kitchen.step(1, step, what));
            }
        }
        Check.due("recipe without anything", 2, Check.recipe(kitchen, "1"));
        Check.due("no third step", NO_SUCH, kitchen.step(1, 2, 0));
        Check.due("no steps", 0, kitchen.ofRecipe(2, 1));
        Check.due("undo", 5, kitchen.undo());
        Check.due("undone recipes", 2, kitchen.count(2));
        Check.due("the pad stays empty", 0, kitchen.count(13));
    }

    private static void amountAnswersThePrevious() {
        TinKitchen kitchen = two();
        Check.due("amount(0, 0, 500)", 200, kitchen.amount(0, 0, 500));
        Check.due("ofRecipe(0, 3)", 500, kitchen.ofRecipe(0, 3));
        Check.due("needs(0, 0)", 750, kitchen.needs(0, 0));
        Check.due("amount(0, 0, 0)", 500, kitchen.amount(0, 0, 0));
        Check.due("needs(0, 0)", 0, kitchen.needs(0, 0));
        Check.due("amount(0, 1, 31)", 30, kitchen.amount(0, 1, 31));
        Check.due("needs(1, 0)", 47, kitchen.needs(1, 0));
    }

    private static void menuAnswersThePrevious() {
        TinKitchen kitchen = two();
        Check.due("menu(0, 20)", 6, kitchen.menu(0, 20));
        Check.due("ofRecipe(0, 2)", 20, kitchen.ofRecipe(0, 2));
        Check.due("needs(0, 0)", 1000, kitchen.needs(0, 0));
        Check.due("menu(0, 0)", 20, kitchen.menu(0, 0));
        Check.due("menu(0, 1)", 0, kitchen.menu(0, 1));
        Check.due("needs(1, 0)", 8, kitchen.needs(1, 0));
        Check.due("step(0, 1, 0)", 5, kitchen.step(0, 1, 0));
    }

    private static void handsAnswerThePrevious() {
        TinKitchen kitchen = two();
        Check.due("hands(1)", 2, kitchen.hands(1));
        Check.due("count(3)", 1, kitchen.count(3));
        Check.due("hands(6)", 1, kitchen.hands(6));
        Check.due("hands(6) again", 6, kitchen.hands(6));
        Check.due("recorded", 6, kitchen.count(14));
    }

    private static void cookUsesThePantryFirst() {
        TinKitchen kitchen = two();
        kitchen.stock(0, 250);
        kitchen.stock(1, 46);
        Check.due("cook()", 40, kitchen.cook());
        Check.due("stock of 0", 50, kitchen.about(0, 5));
        Check.due("stock of 1", 1, kitchen.about(1, 5));
        Check.due("used of 0", 300, kitchen.about(0, 9));
        Check.due("used of 1", 45, kitchen.about(1, 9));
        Check.due("bought of 0", 100, kitchen.about(0, 8));
        Check.due("bought of 1", 0, kitchen.about(1, 8));
    }

    private static void cookUsesWhatSpoilsFirst() {
        TinKitchen kitchen = two();
        kitchen.stock(0, 100);
        kitchen.pass(1);
        kitchen.stock(0, 150);
        kitchen.pass(1);
        kitchen.stock(0, 200);
        Check.due("lots", 3, kitchen.about(0, 6));
        kitchen.menu(0, 3);
        Check.due("cook()", 99, kitchen.cook());
        Check.due("lots, 150 used", 2, kitchen.about(0, 6));
        Check.due("first day", 4, kitchen.about(0, 7));
        Check.due("grams", 300, kitchen.about(0, 5));
        Check.due("pass(2)", 100, kitchen.pass(2));
        kitchen.menu(0, 4);
        kitchen.cook();
        Check.due("lots, all used", 0, kitchen.about(0, 6));
        Check.due("first day", NONE, kitchen.about(0, 7));
    }

    private static void cookUsesWhatWasJustPutIn() {
        TinKitchen kitchen = new TinKitchen();
        kitchen.ingredient(30);
        Check.recipe(kitchen, "1a100");
        kitchen.menu(0, 1);
        kitchen.stock(0, 150);
        Check.due("cook()", 0, kitchen.cook());
        Check.due("left of a lot of 30 days", 50, kitchen.about(0, 5));
        kitchen.pass(29);
        kitchen.stock(0, 60);
        kitchen.menu(0, 1);
        Check.due("cook()", 0, kitchen.cook());
        Check.due("left of both", 10, kitchen.about(0, 5));
        Check.due("pass(1)", 0, kitchen.pass(1));
    }

    private static void cookPutsLeftoversIntoThePantry() {
        TinKitchen kitchen = two();
        kitchen.pass(2);
        Check.due("cook()", 219, kitchen.cook());
        Check.due("nothing left of 0", 0, kitchen.about(0, 6));
        Check.due("left of 1", 455, kitchen.about(1, 5));
        Check.due("lots of 1", 1, kitchen.about(1, 6));
        Check.due("spoils", 7, kitchen.about(1, 7));
        Check.due("stock(1, 5)", 460, kitchen.stock(1, 5));
        Check.due("joined", 1, kitchen.about(1, 6));
        Check.due("by stock()", 5, kitchen.about(1, 11));
        Check.due("pass(4)", 0, kitchen.pass(4));
        Check.due("pass(1)", 460, kitchen.pass(1));
        Check.due("thrown away", 460, kitchen.about(1, 10));
    }

    private static void cookKeepsAccounts() {
        TinKitchen kitchen = two();
        kitchen.cook();
        Check.due("portions", 0, kitchen.ofRecipe(0, 2));
        Check.due("cook() again", NOT_POSSIBLE, kitchen.cook());
        kitchen.menu(0, 20);
        Check.due("cook()", 400, kitchen.cook());
        Check.due("spent", 619, kitchen.count(11));
        Check.due("menus", 2, kitchen.count(12));
        Check.due("bought of 0", 1300, kitchen.about(0, 8));
        Check.due("used of 0", 1300, kitchen.about(0, 9));
        Check.due("used of 1", 195, kitchen.about(1, 9));
        kitchen.undo();
        Check.due("spent, undone", 219, kitchen.count(11));
        Check.due("menus, undone", 1, kitchen.count(12));
        Check.due("portions, undone", 20, kitchen.ofRecipe(0, 2));
    }

    private static TinKitchen missing() {
        TinKitchen kitchen = two();
        kitchen.buyable(1, 0);
        return kitchen;
    }

    private static void cookNeedsPortionsAndAllThings() {
        TinKitchen kitchen = missing();
        kitchen.stock(1, 44);
        Check.due("a gram is missing: cook()", NOT_POSSIBLE, kitchen.cook());
        kitchen.stock(1, 1);
        Check.due("cook()", 120, kitchen.cook());
        Check.recipe(kitchen, "1");
        kitchen.menu(1, 1);
        Check.due("cook() of nothing", 0, kitchen.cook());
        Check.due("menus", 2, kitchen.count(12));
    }

    private static void cookDoesNotLookAtHands() {
        TinKitchen kitchen = two();
        kitchen.hands(1);
        Check.due("no end", NONE, kitchen.count(8));
        Check.due("can be cooked", 1, kitchen.count(7));
        Check.due("cook()", 219, kitchen.cook());
    }

    private static void passThrowsAway() {
        TinKitchen kitchen = two();
        kitchen.stock(0, 10);
        kitchen.pass(1);
        kitchen.stock(0, 100);
        kitchen.stock(1, 1000);
        Check.due("pass(1)", 0, kitchen.pass(1));
        Check.due("pass(1), of day 3", 10, kitchen.pass(1));
        Check.due("day", 3, kitchen.count(0));
        Check.due("grams of 0", 100, kitchen.about(0, 5));
        Check.due("pass(60)", 1100, kitchen.pass(60));
        Check.due("day", 63, kitchen.count(0));
        Check.due("thrown away of 0", 110, kitchen.about(0, 10));
        Check.due("thrown away of 1", 1000, kitchen.about(1, 10));
        Check.due("lots of 0", 0, kitchen.about(0, 6));
        kitchen.undo();
        Check.due("day, undone", 3, kitchen.count(0));
        Check.due("thrown away, undone", 10, kitchen.about(0, 10));
    }

    /** Thirty lots at once: the most that there can be. */
    private static void passGoesRoundTheDays() {
        TinKitchen kitchen = new TinKitchen();
        kitchen.ingredient(30);
        for (int day = 0; day < 40; day++) {
            int there = Math.min(day + 1, 30);
            kitchen.stock(0, day + 1);
            Check.due("lots on day " + day, there, kitchen.about(0, 6));
            Check.due("first day on day " + day, Math.max(30, day + 1), kitchen.about(0, 7));
            Check.due("pass(1) on day " + day, day < 29 ? 0 : day - 28, kitchen.pass(1));
        }
        Check.due("day", 40, kitchen.count(0));
    }
}
