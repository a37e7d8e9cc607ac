/** The bounds of the promises 19 to 21: bestPortions, fewestHands, ifBuyable. */
final class WhatIfBounds {
    private static final int NO_SUCH = TinKitchen.NO_SUCH;
    private static final int BAD_VALUE = TinKitchen.BAD_VALUE;
    private static final int NONE = TinKitchen.NONE;

    private WhatIfBounds() {
    }

    static void run() {
        bestPortions();
        bestPortionsErrors();
        fewestHands();
        fewestHandsErrors();
        ifBuyable();
        ifBuyableErrors();
        nothingChanges();
    }

    /** A recipe that needs 30 of a for a portion, with tins of 100; 0 to 20 portions leave over 0 70 40 10 80 .. */
    private static TinKitchen thirties() {
        TinKitchen kitchen = Kitchens.recipes("1a30", "1a10");
        kitchen.tin(0, 100, 10);
        return kitchen;
    }

    private static TinKitchen missing() {
        TinKitchen kitchen = thirties();
        kitchen.buyable(0, 0);
        return kitchen;
    }

    private static void bestPortions() {
        Document.section("Promise 19");
        Document.sentence("Finds the portions of a recipe, the others being as in the menu, with which the menu can be cooked "
            + "and the least grams are left over of the tins");
        TinKitchen kitchen = thirties();
        Check.due("bestPortions(0, 1, 9)", 3, kitchen.bestPortions(0, 1, 9));
        Check.due("bestPortions(0, 4, 9)", 6, kitchen.bestPortions(0, 4, 9));
        kitchen.menu(1, 4);
        Check.due("40 more are needed: bestPortions(0, 1, 9)", 2, kitchen.bestPortions(0, 1, 9));
        kitchen.menu(0, 20);
        Check.due("its own portions do not matter: bestPortions(0, 1, 9)", 2, kitchen.bestPortions(0, 1, 9));
        kitchen.stock(0, 70);
        Check.due("none are bought: bestPortions(0, 1, 1)", 1, kitchen.bestPortions(0, 1, 1));
        Check.due("none are bought: bestPortions(0, 1, 3)", 1, kitchen.bestPortions(0, 1, 3));
        Document.sentence("`least`: 1 to 20");
        Check.taken(WhatIfBounds::thirties, "bestPortions(0, #, 20)", (k, least) -> k.bestPortions(0, least, 20),
            1, 20, 11, 20, 20, 20);
        Document.sentence("`most`: least to 20");
        Check.taken(WhatIfBounds::thirties, "bestPortions(0, 4, #)", (k, most) -> k.bestPortions(0, 4, most),
            4, 4, 5, 5, 6, 6, 9, 6, 20, 20);
        Check.taken(WhatIfBounds::thirties, "bestPortions(0, #, #)", (k, both) -> k.bestPortions(0, both, both), 1, 1, 7, 7, 20, 20);
        Document.sentence("Returns the portions, of several the most");
        Check.due("10 and 20 leave nothing: bestPortions(0, 1, 20)", 20, thirties().bestPortions(0, 1, 20));
        Check.due("10 alone: bestPortions(0, 1, 19)", 10, thirties().bestPortions(0, 1, 19));
        Check.due("3 and 13 leave 10: bestPortions(0, 1, 9)", 3, thirties().bestPortions(0, 1, 9));
        Check.due("3 and 13 leave 10: bestPortions(0, 11, 13)", 13, thirties().bestPortions(0, 11, 13));
        Check.due("nothing is needed: bestPortions(0, 1, 20)", 20, Kitchens.recipes("1").bestPortions(0, 1, 20));
        Check.due("nothing is needed: bestPortions(0, 1, 19)", 19, Kitchens.recipes("1").bestPortions(0, 1, 19));
    }

    private static void bestPortionsErrors() {
        Document.sentence("NO_SUCH if there is no such recipe");
        Check.outside(Kitchens::filled, "bestPortions(#, 1, 20)", NO_SUCH, 0, 0, (k, of) -> k.bestPortions(of, 1, 20));
        Check.outside(() -> Kitchens.recipes("1", "1", "1", "1"), "4 there: bestPortions(#, 1, 20)", NO_SUCH, 0, 3,
            (k, of) -> k.bestPortions(of, 1, 20));
        Check.refused(Kitchens::filled, "ahead of BAD_VALUE: bestPortions(#, 0, 21)", NO_SUCH, (k, of) -> k.bestPortions(of, 0, 21), -1, 1);
        Document.sentence("BAD_VALUE if least or most is out of range");
        Check.outside(Kitchens::filled, "bestPortions(0, #, 20)", BAD_VALUE, 1, 20, (k, least) -> k.bestPortions(0, least, 20));
        Check.outside(Kitchens::filled, "bestPortions(0, 1, #)", BAD_VALUE, 1, 20, (k, most) -> k.bestPortions(0, 1, most));
        Check.outside(Kitchens::filled, "bestPortions(0, 7, #)", BAD_VALUE, 7, 20, (k, most) -> k.bestPortions(0, 7, most));
        Check.outside(Kitchens::filled, "bestPortions(0, 20, #)", BAD_VALUE, 20, 20, (k, most) -> k.bestPortions(0, 20, most));
        Check.outside(Kitchens::filled, "bestPortions(0, #, #)", BAD_VALUE, 1, 20, (k, both) -> k.bestPortions(0, both, both));
        Check.refused(WhatIfBounds::missing, "ahead of NONE: bestPortions(0, #, 20)", BAD_VALUE,
            (k, least) -> k.bestPortions(0, least, 20), 0, 21);
        Document.sentence("NONE if it cannot be cooked with any");
        Check.refused(WhatIfBounds::missing, "bestPortions(0, #, 20)", NONE, (k, least) -> k.bestPortions(0, least, 20), 1, 20);
        TinKitchen kitchen = missing();
        kitchen.stock(0, 29);
        Check.due("29 there: bestPortions(0, 1, 20)", NONE, kitchen.bestPortions(0, 1, 20));
        kitchen.stock(0, 1);
        Check.due("30 there: bestPortions(0, 1, 20)", 1, kitchen.bestPortions(0, 1, 20));
        Check.due("30 there: bestPortions(0, 2, 20)", NONE, kitchen.bestPortions(0, 2, 20));
        kitchen.menu(1, 1);
        Check.due("the other one takes 10: bestPortions(0, 1, 20)", NONE, kitchen.bestPortions(0, 1, 20));
        kitchen.stock(0, 580);
        Check.due("610 there: bestPortions(0, 1, 20)", 20, kitchen.bestPortions(0, 1, 20));
        // 50 of a are there, so that an odd number of portions leaves nothing over of tins of 100
        Check.unchanged(Kitchens::filled, "bestPortions(0, 1, 20)", 19, k -> k.bestPortions(0, 1, 20));
    }

    private static void fewestHands() {
        Document.section("Promise 20");
        Document.sentence("Finds the fewest hands with which the menu ends at a time, or before it");
        TinKitchen six = Kitchens.menu("1;10/1;10/1;10/1;10/1;10/1;10/1");
        int[] timesAndHands = {9, NONE, 10, 6, 11, 6, 19, 6, 20, 3, 21, 3, 29, 3, 30, 2, 31, 2, 59, 2, 60, 1, 61, 1};
        for (int at = 0; at < timesAndHands.length; at += 2) {
            int time = timesAndHands[at];
            Check.due("fewestHands(" + time + ")", timesAndHands[at + 1], six.fewestHands(time));
        }
        six.hands(6);
        Check.due("the hands that there are do not matter: fewestHands(60)", 1, six.fewestHands(60));
        Document.sentence("`time`: 0 to 5000");
        Check.due("without steps: fewestHands(0)", 1, new TinKitchen().fewestHands(0));
        Check.due("without steps: fewestHands(5000)", 1, new TinKitchen().fewestHands(5000));
        Check.due("with one: fewestHands(0)", NONE, Kitchens.menu("1;1/0").fewestHands(0));
        Check.due("with one: fewestHands(1)", 1, Kitchens.menu("1;1/0").fewestHands(1));
        TinKitchen growing = Kitchens.menu("1;240/1*;200/1@0");
        growing.menu(0, 20);
        Check.due("it lasts 5000: fewestHands(4999)", NONE, growing.fewestHands(4999));
        Check.due("it lasts 5000: fewestHands(5000)", 1, growing.fewestHands(5000));
        TinKitchen longer = Kitchens.menu("1;240/1*;201/1@0");
        longer.menu(0, 20);
        Check.due("it lasts 5001: fewestHands(5000)", NONE, longer.fewestHands(5000));
        Document.sentence("Returns the hands, 1 to 6");
        for (int needed = 0; needed <= 3; needed++) {
            TinKitchen kitchen = Kitchens.menu("1;10/" + needed + ";10/" + needed);
            Check.due(needed + " and " + needed + ": fewestHands(10)", Math.max(1, 2 * needed), kitchen.fewestHands(10));
            Check.due(needed + " and " + needed + ": fewestHands(20)", Math.max(1, needed), kitchen.fewestHands(20));
        }
    }

    private static void fewestHandsErrors() {
        Document.sentence("BAD_VALUE if time is out of range");
        Check.outside(Kitchens::filled, "fewestHands(#)", BAD_VALUE, 0, 5000, TinKitchen::fewestHands);
        Document.sentence("NONE if it does not with any");
        Check.refused(Kitchens::filled, "fewestHands(#)", NONE, TinKitchen::fewestHands, 0, 44);
        Check.unchanged(Kitchens::filled, "fewestHands(45)", 2, k -> k.fewestHands(45));
        TinKitchen seven = Kitchens.menu("1;10/1;10/1;10/1;10/1;10/1;10/1;10/1");
        Check.due("a seventh hand is needed: fewestHands(19)", NONE, seven.fewestHands(19));
        Check.due("a seventh hand is needed: fewestHands(20)", 4, seven.fewestHands(20));
    }

    private static void ifBuyable() {
        Document.section("Promise 21");
        Document.sentence("Tells what the tins for the menu would cost if an ingredient could be bought or not");
        TinKitchen kitchen = Kitchens.filled();
        kitchen.menu(0, 20);
        // a needs 1000, 50 are there, 10 tins cost 400; b needs 150, or 625 with the 475 that replace 950 of a
        Check.due("as it is: ifBuyable(0, 1)", 400, kitchen.ifBuyable(0, 1));
        Check.due("replaced: ifBuyable(0, 0)", 99, kitchen.ifBuyable(0, 0));
        kitchen.buyable(0, 0);
        Check.due("as it is: ifBuyable(0, 0)", 99, kitchen.ifBuyable(0, 0));
        Check.due("if it could: ifBuyable(0, 1)", 400, kitchen.ifBuyable(0, 1));
        Document.sentence("`is`: 1 or 0");
        Check.taken(Kitchens::filled, "ifBuyable(0, #)", (k, is) -> k.ifBuyable(0, is), 0, 0, 1, 120);
        Document.sentence("Returns the price");
        TinKitchen nothing = Kitchens.needing(0);
        Check.due("nothing is needed: ifBuyable(0, 0)", 0, nothing.ifBuyable(0, 0));
        Check.due("nothing is needed: ifBuyable(0, 1)", 0, nothing.ifBuyable(0, 1));
        TinKitchen empty = Kitchens.ingredients(8);
        Check.due("no menu: ifBuyable(7, 0)", 0, empty.ifBuyable(7, 0));
        TinKitchen two = Kitchens.menu("1a50b51");
        two.tin(0, 50, 999);
        two.tin(1, 50, 3);
        Check.due("of all tins: ifBuyable(0, 1)", 999 + 6, two.ifBuyable(0, 1));
        two.stock(0, 50);
        Check.due("of what is bought: ifBuyable(0, 0)", 6, two.ifBuyable(0, 0));
    }

    private static void ifBuyableErrors() {
        Document.sentence("NO_SUCH if there is no such ingredient");
        Check.outside(Kitchens::filled, "ifBuyable(#, 0)", NO_SUCH, 0, 1, (k, of) -> k.ifBuyable(of, 0));
        Check.outside(() -> Kitchens.ingredients(8), "8 there: ifBuyable(#, 1)", NO_SUCH, 0, 7, (k, of) -> k.ifBuyable(of, 1));
        Check.refused(Kitchens::filled, "ahead of BAD_VALUE: ifBuyable(#, 2)", NO_SUCH, (k, of) -> k.ifBuyable(of, 2), -1, 2);
        Document.sentence("BAD_VALUE if is is neither 0 nor 1");
        Check.outside(Kitchens::filled, "ifBuyable(0, #)", BAD_VALUE, 0, 1, (k, is) -> k.ifBuyable(0, is));
        Check.outside(() -> Kitchens.needing(1), "ahead of NONE: ifBuyable(0, #)", BAD_VALUE, 0, 1, (k, is) -> k.ifBuyable(0, is));
        Document.sentence("NONE if something would be missing");
        TinKitchen kitchen = Kitchens.needing(51);
        kitchen.tin(0, 50, 7);
        kitchen.stock(0, 50);
        Check.due("a gram: ifBuyable(0, 0)", NONE, kitchen.ifBuyable(0, 0));
        Check.due("a gram that can be bought: ifBuyable(0, 1)", 7, kitchen.ifBuyable(0, 1));
        kitchen.stock(0, 1);
        Check.due("nothing: ifBuyable(0, 0)", 0, kitchen.ifBuyable(0, 0));
        Check.refused(() -> Kitchens.needing(1), "it has no tins: ifBuyable(0, #)", NONE, (k, is) -> k.ifBuyable(0, is), 0, 1);
        Check.refused(() -> Kitchens.menu("1h1"), "another one is missing: ifBuyable(0, #)", NONE, (k, is) -> k.ifBuyable(0, is), 0, 1);
        Check.unchanged(Kitchens::filled, "ifBuyable(0, 0)", 0, k -> k.ifBuyable(0, 0));
        Check.unchanged(Kitchens::filled, "ifBuyable(1, 1)", 120, k -> k.ifBuyable(1, 1));
    }

    private static void nothingChanges() {
        Document.section("Texts");
        Document.sentence("nothing changes.");
        Check.unchanged(Kitchens::filled, "bestPortions(0, 2, 2)", 2, k -> k.bestPortions(0, 2, 2));
        Check.unchanged(Kitchens::filled, "fewestHands(5000)", 2, k -> k.fewestHands(5000));
        Check.unchanged(Kitchens::filled, "ifBuyable(0, 0)", 0, k -> k.ifBuyable(0, 0));
        Check.unchanged(WhatIfBounds::missing, "bestPortions(0, 1, 20)", NONE, k -> k.bestPortions(0, 1, 20));
        Check.unchanged(WhatIfBounds::missing, "ifBuyable(0, 1)", 0, k -> k.ifBuyable(0, 1));
        Check.unchanged(() -> Kitchens.menu("1;9/3"), "fewestHands(8)", NONE, k -> k.fewestHands(8));
    }
}
