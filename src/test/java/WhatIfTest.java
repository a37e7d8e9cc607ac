/** Promises 19 to 21: bestPortions, fewestHands, ifBuyable. */
public final class WhatIfTest {
    private static final int NONE = TinKitchen.NONE;

    public static void main(String[] arguments) {
        bestPortionsLeaveTheLeast();
        bestPortionsSumTheLeftovers();
        bestPortionsCanBeCooked();
        fewestHandsEndInTime();
        fewestHandsForSeveralRecipes();
        ifBuyableTellsThePrice();
        Check.end("WhatIfTest");
    }

    /** Tins of 100 and 250 for 0, which can be replaced by 1; two recipes, the first in the menu. */
    private static TinKitchen filled() {
        TinKitchen kitchen = new TinKitchen();
        kitchen.ingredient(3);
        kitchen.ingredient(5);
        kitchen.tin(0, 100, 40);
        kitchen.tin(0, 250, 90);
        kitchen.tin(1, 500, 99);
        kitchen.substitute(0, 1, 50);
        Check.recipe(kitchen, "4a200b30;10/1;20/2*@0;5/0@0@1");
        Check.recipe(kitchen, "1a70");
        kitchen.menu(0, 6);
        kitchen.put(Check.number("7x"));
        return kitchen;
    }

    /** A recipe that needs this of 0 for a portion, with tins of 100 alone. */
    private static TinKitchen hundreds(int amount) {
        TinKitchen kitchen = new TinKitchen();
        kitchen.ingredient(1);
        kitchen.ingredient(1);
        kitchen.tin(0, 100, 10);
        Check.recipe(kitchen, "1a1");
        kitchen.amount(0, 0, amount);
        return kitchen;
    }

    private static void bestPortionsLeaveTheLeast() {
        TinKitchen kitchen = hundreds(30);
        // left over of 30, 60, 90, 120, ..: 70 40 10 80 50 20 90 60 30 0 and again
        Check.due("bestPortions(0, 1, 20)", 20, kitchen.bestPortions(0, 1, 20));
        Check.due("bestPortions(0, 1, 19)", 10, kitchen.bestPortions(0, 1, 19));
        Check.due("bestPortions(0, 1, 9)", 3, kitchen.bestPortions(0, 1, 9));
        Check.due("bestPortions(0, 4, 9)", 6, kitchen.bestPortions(0, 4, 9));
        Check.due("bestPortions(0, 7, 8)", 8, kitchen.bestPortions(0, 7, 8));
        Check.due("bestPortions(0, 7, 7)", 7, kitchen.bestPortions(0, 7, 7));
        Check.due("bestPortions(0, 20, 20)", 20, kitchen.bestPortions(0, 20, 20));
        kitchen.stock(0, 90);
        // the pantry has the first 90: 0 0 0 70 40 10 80 50 20 90
        Check.due("in the pantry: bestPortions(0, 1, 10)", 3, kitchen.bestPortions(0, 1, 10));
        Check.due("in the pantry: bestPortions(0, 4, 10)", 6, kitchen.bestPortions(0, 4, 10));
    }

    private static void bestPortionsSumTheLeftovers() {
        TinKitchen kitchen = hundreds(30);
        kitchen.tin(1, 100, 10);
        kitchen.amount(0, 1, 25);
        // left over of 25, 50, ..: 75 50 25 0; with those of 30: 145 90 35 80 125 70 115 60 105 50
        Check.due("bestPortions(0, 1, 10)", 3, kitchen.bestPortions(0, 1, 10));
        Check.due("bestPortions(0, 4, 10)", 10, kitchen.bestPortions(0, 4, 10));
        Check.due("bestPortions(0, 4, 9)", 8, kitchen.bestPortions(0, 4, 9));
        Check.recipe(kitchen, "1a10");
        kitchen.menu(1, 1);
        // of 0 are 40, 70, 100, 130, .. needed then: 60 30 0 70 40 10; with those of 25: 135 80 25 70 115 60
        Check.due("with another: bestPortions(0, 1, 6)", 3, kitchen.bestPortions(0, 1, 6));
        Check.due("with another: bestPortions(0, 4, 6)", 6, kitchen.bestPortions(0, 4, 6));
        kitchen.menu(0, 2);
        // its own portions do not matter, but those of the other one: of 0 are 70, 80, 90, .. needed
        Check.due("bestPortions(1, 1, 5)", 4, kitchen.bestPortions(1, 1, 5));
        Check.due("bestPortions(1, 5, 10)", 10, kitchen.bestPortions(1, 5, 10));
    }

    private static void bestPortionsCanBeCooked() {
        TinKitchen kitchen = hundreds(30);
        kitchen.buyable(0, 0);
        Check.due("nothing there", NONE, kitchen.bestPortions(0, 1, 20));
        kitchen.stock(0, 130);
        Check.due("130 there", 4, kitchen.bestPortions(0, 1, 20));
        Check.due("130 there, 4 to 20", 4, kitchen.bestPortions(0, 4, 20));
        Check.due("130 there, 5 to 20", NONE, kitchen.bestPortions(0, 5, 20));
        kitchen.amount(0, 0, 0);
        Check.due("nothing needed", 20, kitchen.bestPortions(0, 1, 20));
    }

    private static void fewestHandsEndInTime() {
        TinKitchen kitchen = filled();
        Check.due("fewestHands(44)", NONE, kitchen.fewestHands(44));
        Check.due("fewestHands(45)", 2, kitchen.fewestHands(45));
        Check.due("fewestHands(5000)", 2, kitchen.fewestHands(5000));
        kitchen.hands(1);
        Check.due("fewestHands(45), with one", 2, kitchen.fewestHands(45));
        kitchen.menu(0, 0);
        Check.due("fewestHands(0) of nothing", 1, kitchen.fewestHands(0));
        TinKitchen six = new TinKitchen();
        Check.recipe(six, "1;10/1;10/1;10/1;10/1;10/1;10/1;10/0");
        six.menu(0, 1);
        int[] fewest = {NONE, 6, 6, 3, 3, 2, 2, 2, 2, 2, 2, 1};
        int[] times = {9, 10, 19, 20, 29, 30, 31, 40, 49, 50, 59, 60};
        for (int at = 0; at < times.length; at++) {
            Check.due("six: fewestHands(" + times[at] + ")", fewest[at], six.fewestHands(times[at]));
        }
    }

    /** With one or two hands the menu has no end; a step that grows takes long. */
    private static void fewestHandsForSeveralRecipes() {
        TinKitchen kitchen = new TinKitchen();
        Check.recipe(kitchen, "1;10/3;20/1@0;7/1;5/1@2");
        kitchen.menu(0, 1);
        Check.due("fewestHands(30)", 3, kitchen.fewestHands(30));
        Check.due("fewestHands(29)", NONE, kitchen.fewestHands(29));
        Check.recipe(kitchen, "1;240/0*");
        kitchen.menu(1, 20);
        Check.due("fewestHands(4799)", NONE, kitchen.fewestHands(4799));
        Check.due("fewestHands(4800)", 3, kitchen.fewestHands(4800));
    }

    private static void ifBuyableTellsThePrice() {
        TinKitchen kitchen = filled();
        Check.due("ifBuyable(0, 1)", 120 + 99, kitchen.ifBuyable(0, 1));
        // 300 of 0 are replaced by 150 of 1
        Check.due("ifBuyable(0, 0)", 99, kitchen.ifBuyable(0, 0));
        Check.due("ifBuyable(1, 0)", NONE, kitchen.ifBuyable(1, 0));
        kitchen.buyable(1, 0);
        Check.due("ifBuyable(1, 1)", 219, kitchen.ifBuyable(1, 1));
        Check.due("ifBuyable(0, 1)", NONE, kitchen.ifBuyable(0, 1));
        kitchen.stock(1, 45);
        Check.due("ifBuyable(0, 1)", 120, kitchen.ifBuyable(0, 1));
        Check.due("ifBuyable(0, 0)", NONE, kitchen.ifBuyable(0, 0));
        kitchen.menu(0, 0);
        Check.due("ifBuyable(1, 0) without portions", 0, kitchen.ifBuyable(1, 0));
    }
}
