/** The bounds of the promises 2 to 6: ingredient, tin, buyable, substitute, stock. */
final class IngredientBounds {
    private static final int NO_SUCH = TinKitchen.NO_SUCH;
    private static final int BAD_VALUE = TinKitchen.BAD_VALUE;
    private static final int TOO_MANY = TinKitchen.TOO_MANY;
    private static final int NOT_POSSIBLE = TinKitchen.NOT_POSSIBLE;
    private static final int NONE = TinKitchen.NONE;

    private IngredientBounds() {
    }

    static void run() {
        ingredient();
        ingredientErrors();
        tin();
        tinErrors();
        buyable();
        substitute();
        substituteErrors();
        stock();
        stockJoins();
        stockErrors();
        stockIsFull();
    }

    private static void ingredient() {
        Document.section("Promise 2");
        Document.sentence("Adds an ingredient");
        TinKitchen kitchen = new TinKitchen();
        Check.due("none: count(1)", 0, kitchen.count(1));
        Check.due("none: about(0, 0)", NO_SUCH, kitchen.about(0, 0));
        kitchen.ingredient(5);
        Check.due("one: count(1)", 1, kitchen.count(1));
        Check.due("one: about(0, 0)", 5, kitchen.about(0, 0));
        Check.due("one: about(1, 0)", NO_SUCH, kitchen.about(1, 0));
        Document.sentence("This is a change");
        Check.change(Kitchens::filled, "ingredient(9)", 2, k -> k.ingredient(9));
        Document.sentence("`days`: 1 to 30: for how long it keeps");
        Check.taken(Kitchens::filled, "ingredient(#)", TinKitchen::ingredient, 1, 2, 30, 2);
        keepsFor(1);
        keepsFor(30);
        Document.sentence("Returns its number");
        TinKitchen eight = new TinKitchen();
        for (int number = 0; number < 8; number++) {
            Check.due("ingredient() " + number, number, eight.ingredient(30 - number));
        }
    }

    private static void keepsFor(int days) {
        TinKitchen kitchen = new TinKitchen();
        kitchen.ingredient(days);
        Check.due(days + " days: about(0, 0)", days, kitchen.about(0, 0));
        kitchen.pass(1);
        kitchen.stock(0, 7);
        Check.due(days + " days: about(0, 7)", 1 + days, kitchen.about(0, 7));
        if (days > 1) {
            Check.due(days + " days: pass(days - 1)", 0, kitchen.pass(days - 1));
        }
        Check.due(days + " days: pass(1)", 7, kitchen.pass(1));
    }

    private static void ingredientErrors() {
        Document.sentence("BAD_VALUE if days is out of range");
        Check.outside(Kitchens::filled, "ingredient(#)", BAD_VALUE, 1, 30, TinKitchen::ingredient);
        Check.refused(() -> Kitchens.ingredients(8), "ahead of TOO_MANY: ingredient(#)", BAD_VALUE,
            TinKitchen::ingredient, 0, 31);
        Document.sentence("TOO_MANY if there are 8 ingredients");
        Check.taken(() -> Kitchens.ingredients(7), "7 there: ingredient(#)", TinKitchen::ingredient, 1, 7, 30, 7);
        Check.refused(() -> Kitchens.ingredients(8), "8 there: ingredient(#)", TOO_MANY,
            TinKitchen::ingredient, 1, 30);
    }

    private static TinKitchen threeKinds() {
        TinKitchen kitchen = Kitchens.filled();
        kitchen.tin(0, 50, 999);
        kitchen.tin(0, 2000, 1);
        return kitchen;
    }

    private static void tin() {
        Document.section("Promise 3");
        Document.sentence("Adds a kind of tins");
        TinKitchen kitchen = Kitchens.ingredients(2);
        Check.due("none: about(1, 2)", 0, kitchen.about(1, 2));
        Check.due("none: ofTin(1, 0, 0)", NO_SUCH, kitchen.ofTin(1, 0, 0));
        kitchen.tin(1, 70, 8);
        Check.due("one: about(1, 2)", 1, kitchen.about(1, 2));
        Check.due("one: size", 70, kitchen.ofTin(1, 0, 0));
        Check.due("one: price", 8, kitchen.ofTin(1, 0, 1));
        Check.due("one: ofTin(1, 1, 0)", NO_SUCH, kitchen.ofTin(1, 1, 0));
        Check.due("of the other: about(0, 2)", 0, kitchen.about(0, 2));
        Document.sentence("This is a change");
        Check.change(Kitchens::filled, "tin(0, 250, 90)", 2, k -> k.tin(0, 250, 90));
        Document.sentence("`size`: 50 to 2000");
        Check.taken(Kitchens::filled, "tin(0, #, 5)", (k, size) -> k.tin(0, size, 5), 50, 2, 2000, 2);
        Check.due("size 50", 50, threeKinds().ofTin(0, 1, 0));
        Check.due("size 2000", 2000, threeKinds().ofTin(0, 2, 0));
        Document.sentence("`price`: 1 to 999");
        Check.taken(Kitchens::filled, "tin(0, 60, #)", (k, price) -> k.tin(0, 60, price), 1, 2, 999, 2);
        Check.due("price 999", 999, threeKinds().ofTin(0, 1, 1));
        Check.due("price 1", 1, threeKinds().ofTin(0, 2, 1));
        Document.sentence("Returns the number of its kinds then");
        TinKitchen counted = Kitchens.ingredients(2);
        for (int kinds = 1; kinds <= 3; kinds++) {
            Check.due("tin(1, ..)", kinds, counted.tin(1, 50 * kinds, 1));
        }
        Check.due("tin(0, ..)", 1, counted.tin(0, 50, 1));
    }

    private static void tinErrors() {
        Document.sentence("NO_SUCH if there is no such ingredient");
        Check.outside(Kitchens::filled, "tin(#, 60, 6)", NO_SUCH, 0, 1, (k, of) -> k.tin(of, 60, 6));
        Check.outside(() -> Kitchens.ingredients(8), "8 there: tin(#, 60, 6)", NO_SUCH, 0, 7,
            (k, of) -> k.tin(of, 60, 6));
        Check.refused(Kitchens::filled, "ahead of BAD_VALUE: tin(#, 49, 0)", NO_SUCH, (k, of) -> k.tin(of, 49, 0), -1, 2);
        Document.sentence("BAD_VALUE if size or price is out of range");
        Check.outside(Kitchens::filled, "tin(0, #, 5)", BAD_VALUE, 50, 2000, (k, size) -> k.tin(0, size, 5));
        Check.outside(Kitchens::filled, "tin(0, 60, #)", BAD_VALUE, 1, 999, (k, price) -> k.tin(0, 60, price));
        Check.outside(IngredientBounds::threeKinds, "ahead of TOO_MANY: tin(0, #, 5)", BAD_VALUE, 50, 2000,
            (k, size) -> k.tin(0, size, 5));
        Check.outside(Kitchens::filled, "ahead of NOT_POSSIBLE: tin(0, 100, #)", BAD_VALUE, 1, 999,
            (k, price) -> k.tin(0, 100, price));
        Document.sentence("TOO_MANY if it has 3 kinds");
        Check.refused(IngredientBounds::threeKinds, "tin(0, #, 5)", TOO_MANY, (k, size) -> k.tin(0, size, 5), 51, 1999);
        Check.refused(IngredientBounds::threeKinds, "ahead of NOT_POSSIBLE: tin(0, #, 5)", TOO_MANY,
            (k, size) -> k.tin(0, size, 5), 50, 100, 2000);
        Check.taken(IngredientBounds::threeKinds, "the other one: tin(1, #, 5)", (k, size) -> k.tin(1, size, 5), 50, 2);
        Document.sentence("NOT_POSSIBLE if it has a kind of this size");
        Check.refused(Kitchens::filled, "of kind 0: tin(0, #, 40)", NOT_POSSIBLE, (k, size) -> k.tin(0, size, 40), 100);
        Check.refused(IngredientBounds::twoKinds, "of either kind: tin(0, #, 7)", NOT_POSSIBLE,
            (k, size) -> k.tin(0, size, 7), 100, 250);
        Check.taken(IngredientBounds::twoKinds, "tin(0, #, 7)", (k, size) -> k.tin(0, size, 7),
            99, 3, 101, 3, 249, 3, 251, 3, 500, 3);
        Check.taken(IngredientBounds::twoKinds, "the other one: tin(1, #, 7)", (k, size) -> k.tin(1, size, 7),
            100, 2, 250, 2);
    }

    private static TinKitchen twoKinds() {
        TinKitchen kitchen = Kitchens.filled();
        kitchen.tin(0, 250, 90);
        return kitchen;
    }

    private static void buyable() {
        Document.section("Promise 4");
        Document.sentence("Lets an ingredient be bought, or not");
        TinKitchen kitchen = Kitchens.filled();
        kitchen.buyable(0, 0);
        Check.due("not: about(0, 1)", 0, kitchen.about(0, 1));
        Check.due("not: needs(0, 3)", 0, kitchen.needs(0, 3));
        Check.due("the other one: about(1, 1)", 1, kitchen.about(1, 1));
        kitchen.buyable(0, 1);
        Check.due("again: about(0, 1)", 1, kitchen.about(0, 1));
        Check.due("again: needs(0, 3)", 300, kitchen.needs(0, 3));
        Document.sentence("This is a change");
        Check.change(Kitchens::filled, "buyable(0, 0)", 1, k -> k.buyable(0, 0));
        Document.sentence("`is`: 1 or 0");
        Check.taken(Kitchens::filled, "buyable(1, #)", (k, is) -> k.buyable(1, is), 0, 1, 1, 1);
        Document.sentence("Returns 1 if it could be bought before, 0 if not");
        TinKitchen turned = Kitchens.ingredients(1);
        int[] turns = {1, 1, 0, 1, 0, 0, 1, 0};
        for (int turn = 0; turn < turns.length; turn += 2) {
            Check.due("buyable(0, " + turns[turn] + "), turn " + turn / 2, turns[turn + 1], turned.buyable(0, turns[turn]));
        }
        Document.sentence("NO_SUCH if there is no such ingredient");
        Check.outside(Kitchens::filled, "buyable(#, 0)", NO_SUCH, 0, 1, (k, of) -> k.buyable(of, 0));
        Check.outside(() -> Kitchens.ingredients(8), "8 there: buyable(#, 0)", NO_SUCH, 0, 7, (k, of) -> k.buyable(of, 0));
        Check.refused(Kitchens::filled, "ahead of BAD_VALUE: buyable(#, 2)", NO_SUCH, (k, of) -> k.buyable(of, 2), -1, 2);
        Document.sentence("BAD_VALUE if is is neither 0 nor 1");
        Check.outside(Kitchens::filled, "buyable(0, #)", BAD_VALUE, 0, 1, (k, is) -> k.buyable(0, is));
    }

    /** Three ingredients; the first has the last as its substitute. */
    private static TinKitchen three() {
        TinKitchen kitchen = Kitchens.ingredients(3);
        kitchen.save(0);
        kitchen.substitute(0, 2, 150);
        kitchen.save(1);
        return kitchen;
    }

    private static void substitute() {
        Document.section("Promise 5");
        Document.sentence("Gives an ingredient a substitute, in place of the one that it had");
        TinKitchen kitchen = three();
        Check.due("without: about(1, 3)", NONE, kitchen.about(1, 3));
        Check.due("without: about(1, 4)", NONE, kitchen.about(1, 4));
        kitchen.substitute(0, 1, 20);
        Check.due("in place: about(0, 3)", 1, kitchen.about(0, 3));
        Check.due("in place: about(0, 4)", 20, kitchen.about(0, 4));
        Check.due("without still: about(1, 3)", NONE, kitchen.about(1, 3));
        Document.sentence("This is a change");
        Check.change(IngredientBounds::three, "substitute(0, 1, 10)", 2, k -> k.substitute(0, 1, 10));
        Check.change(IngredientBounds::three, "substitute(1, 2, 10)", NONE, k -> k.substitute(1, 2, 10));
        Check.change(IngredientBounds::three, "substitute(0, NONE, 0)", 2, k -> k.substitute(0, NONE, 0));
        Document.sentence("`other`: a later ingredient, or NONE for no substitute (the rate does not matter then)");
        Check.taken(IngredientBounds::three, "substitute(0, #, 10)", (k, other) -> k.substitute(0, other, 10), 1, 2, 2, 2);
        Check.taken(IngredientBounds::three, "substitute(1, #, 10)", (k, other) -> k.substitute(1, other, 10), 2, NONE);
        Check.taken(() -> Kitchens.ingredients(8), "substitute(#, 7, 10)", (k, of) -> k.substitute(of, 7, 10), 0, NONE, 6, NONE);
        Check.taken(IngredientBounds::three, "substitute(0, NONE, #)", (k, rate) -> k.substitute(0, NONE, rate),
            9, 2, 10, 2, 200, 2, 201, 2, 0, 2, -6, 2, Integer.MIN_VALUE, 2, Integer.MAX_VALUE, 2);
        TinKitchen none = three();
        none.substitute(0, NONE, 150);
        Check.due("NONE: about(0, 3)", NONE, none.about(0, 3));
        Check.due("NONE: about(0, 4)", NONE, none.about(0, 4));
        Check.due("of the last one: substitute(2, NONE, 0)", NONE, none.substitute(2, NONE, 0));
        Document.sentence("`rate`: 10 to 200");
        Check.taken(IngredientBounds::three, "substitute(0, 1, #)", (k, rate) -> k.substitute(0, 1, rate), 10, 2, 200, 2);
        none.substitute(0, 1, 10);
        Check.due("rate 10", 10, none.about(0, 4));
        none.substitute(0, 1, 200);
        Check.due("rate 200", 200, none.about(0, 4));
        Document.sentence("Returns the previous substitute, NONE if there was none");
        Check.due("after 1: substitute(0, 2, 10)", 1, none.substitute(0, 2, 10));
        Check.due("after 2: substitute(0, NONE, 10)", 2, none.substitute(0, NONE, 10));
        Check.due("after none: substitute(0, NONE, 10)", NONE, none.substitute(0, NONE, 10));
        Check.due("after none: substitute(0, 1, 10)", NONE, none.substitute(0, 1, 10));
    }

    private static void substituteErrors() {
        Document.sentence("NO_SUCH if there is no such ingredient (ingredient, or other unless it is NONE)");
        Check.outside(IngredientBounds::three, "substitute(#, 2, 10)", NO_SUCH, 0, 2, (k, of) -> k.substitute(of, 2, 10));
        Check.outside(IngredientBounds::three, "substitute(#, NONE, 10)", NO_SUCH, 0, 2, (k, of) -> k.substitute(of, NONE, 10));
        Check.refused(IngredientBounds::three, "no NONE for it: substitute(#, NONE, 10)", NO_SUCH,
            (k, of) -> k.substitute(of, NONE, 10), NONE);
        Check.outside(IngredientBounds::three, "substitute(0, #, 10)", NO_SUCH, 0, 2, (k, other) -> k.substitute(0, other, 10));
        Check.refused(IngredientBounds::three, "beside NONE: substitute(0, #, 10)", NO_SUCH,
            (k, other) -> k.substitute(0, other, 10), NO_SUCH, NONE + 1, NONE - 1, 6, NONE + 256);
        Check.outside(() -> Kitchens.ingredients(8), "8 there: substitute(0, #, 10)", NO_SUCH, NONE, 7,
            (k, other) -> k.substitute(0, other, 10));
        Check.refused(IngredientBounds::three, "ahead of BAD_VALUE: substitute(0, #, 9)", NO_SUCH,
            (k, other) -> k.substitute(0, other, 9), -1, 3);
        Check.refused(IngredientBounds::three, "ahead of BAD_VALUE: substitute(#, 1, 201)", NO_SUCH,
            (k, of) -> k.substitute(of, 1, 201), -1, 3);
        Document.sentence("BAD_VALUE if other is not later than the ingredient, or rate is out of range");
        Check.refused(IngredientBounds::three, "substitute(#, 1, 10)", BAD_VALUE, (k, of) -> k.substitute(of, 1, 10), 1, 2);
        Check.refused(IngredientBounds::three, "substitute(2, #, 10)", BAD_VALUE,
            (k, other) -> k.substitute(2, other, 10), 0, 1, 2);
        Check.refused(IngredientBounds::three, "substitute(0, #, 10)", BAD_VALUE, (k, other) -> k.substitute(0, other, 10), 0);
        Check.outside(IngredientBounds::three, "substitute(0, 1, #)", BAD_VALUE, 10, 200, (k, rate) -> k.substitute(0, 1, rate));
        Check.refused(IngredientBounds::three, "both: substitute(1, 1, #)", BAD_VALUE, (k, rate) -> k.substitute(1, 1, rate), 9, 201);
    }

    private static void stock() {
        Document.section("Promise 6");
        Document.sentence("Puts some of an ingredient into the pantry");
        TinKitchen kitchen = Kitchens.ingredients(2);
        Check.due("empty: about(1, 5)", 0, kitchen.about(1, 5));
        Check.due("empty: about(1, 6)", 0, kitchen.about(1, 6));
        kitchen.stock(1, 8);
        Check.due("there: about(1, 5)", 8, kitchen.about(1, 5));
        Check.due("there: about(1, 6)", 1, kitchen.about(1, 6));
        Check.due("there: about(1, 11)", 8, kitchen.about(1, 11));
        Check.due("of the other: about(0, 5)", 0, kitchen.about(0, 5));
        Document.sentence("This is a change");
        Check.change(Kitchens::filled, "stock(0, 77)", 127, k -> k.stock(0, 77));
        Document.sentence("`grams`: 1 to 20000");
        Check.taken(Kitchens::filled, "stock(0, #)", (k, grams) -> k.stock(0, grams), 1, 51, 20000, 20050);
        Document.sentence("Returns what there is of it in the pantry then");
        TinKitchen lots = Kitchens.ingredients(3);
        Check.due("the first lot: stock(2, 5)", 5, lots.stock(2, 5));
        Check.due("the same lot: stock(2, 6)", 11, lots.stock(2, 6));
        lots.pass(1);
        Check.due("a second lot: stock(2, 7)", 18, lots.stock(2, 7));
        lots.pass(2);
        Check.due("without the first: stock(2, 1)", 8, lots.stock(2, 1));
    }

    private static void stockJoins() {
        Document.sentence("it spoils on the day (today + the days for which it keeps), and joins the lot with this day, "
            + "if there is one");
        TinKitchen kitchen = Kitchens.ingredients(3);
        kitchen.stock(2, 5);
        Check.due("day 0: about(2, 7)", 3, kitchen.about(2, 7));
        kitchen.stock(2, 6);
        Check.due("joined: about(2, 6)", 1, kitchen.about(2, 6));
        kitchen.pass(1);
        kitchen.stock(2, 7);
        Check.due("day 1, not joined: about(2, 6)", 2, kitchen.about(2, 6));
        Check.due("day 1: about(2, 7)", 3, kitchen.about(2, 7));
        kitchen.stock(1, 9);
        Check.due("day 1: about(1, 7)", 3, kitchen.about(1, 7));
        Check.due("the same day, another ingredient: about(1, 6)", 1, kitchen.about(1, 6));
        Check.due("to day 2: pass(1)", 0, kitchen.pass(1));
        Check.due("to day 3: pass(1)", 11 + 9, kitchen.pass(1));
        Check.due("to day 4: pass(1)", 7, kitchen.pass(1));
        TinKitchen cooked = Kitchens.needing(1);
        cooked.tin(0, 50, 1);
        cooked.cook();
        cooked.stock(0, 1);
        Check.due("joins what cook() left: about(0, 6)", 1, cooked.about(0, 6));
        Check.due("joins what cook() left: about(0, 5)", 50, cooked.about(0, 5));
    }

    private static void stockErrors() {
        Document.sentence("NO_SUCH if there is no such ingredient");
        Check.outside(Kitchens::filled, "stock(#, 1)", NO_SUCH, 0, 1, (k, of) -> k.stock(of, 1));
        Check.outside(() -> Kitchens.ingredients(8), "8 there: stock(#, 1)", NO_SUCH, 0, 7, (k, of) -> k.stock(of, 1));
        Check.refused(Kitchens::filled, "ahead of BAD_VALUE: stock(#, 0)", NO_SUCH, (k, of) -> k.stock(of, 0), -1, 2);
        Document.sentence("BAD_VALUE if grams is out of range");
        Check.outside(Kitchens::filled, "stock(0, #)", BAD_VALUE, 1, 20000, (k, grams) -> k.stock(0, grams));
        Check.outside(() -> stocked(100000), "ahead of NOT_POSSIBLE: stock(0, #)", BAD_VALUE, 1, 20000,
            (k, grams) -> k.stock(0, grams));
    }

    /** Two ingredients, with so much of the first, in lots of several days. */
    private static TinKitchen stocked(int grams) {
        TinKitchen kitchen = new TinKitchen();
        kitchen.ingredient(30);
        kitchen.ingredient(30);
        for (int left = grams; left > 0; left -= 20000) {
            kitchen.stock(0, Math.min(left, 20000));
            kitchen.pass(1);
        }
        return kitchen;
    }

    private static void stockIsFull() {
        Document.sentence("NOT_POSSIBLE if there would be more than 100000 grams of it");
        Check.taken(() -> stocked(80000), "80000 there: stock(0, #)", (k, grams) -> k.stock(0, grams), 20000, 100000);
        Check.refused(() -> stocked(80001), "80001 there: stock(0, #)", NOT_POSSIBLE, (k, grams) -> k.stock(0, grams), 20000);
        Check.taken(() -> stocked(80001), "80001 there: stock(0, #)", (k, grams) -> k.stock(0, grams), 19999, 100000);
        Check.taken(() -> stocked(99999), "99999 there: stock(0, #)", (k, grams) -> k.stock(0, grams), 1, 100000);
        Check.refused(() -> stocked(99999), "99999 there: stock(0, #)", NOT_POSSIBLE, (k, grams) -> k.stock(0, grams), 2, 20000);
        Check.refused(() -> stocked(100000), "full: stock(0, #)", NOT_POSSIBLE, (k, grams) -> k.stock(0, grams), 1, 20000);
        Check.taken(() -> stocked(100000), "of the other: stock(1, #)", (k, grams) -> k.stock(1, grams), 20000, 20000);
        TinKitchen kitchen = stocked(100000);
        kitchen.pass(25);
        Check.due("some has spoiled: stock(0, 20000)", 100000, kitchen.stock(0, 20000));
        Check.due("put in altogether", 120000, kitchen.about(0, 11));
        Check.due("full again: stock(0, 1)", NOT_POSSIBLE, kitchen.stock(0, 1));
        TinKitchen cooked = Kitchens.needing(1);
        cooked.tin(0, 2000, 1);
        cooked.cook();
        for (int turn = 0; turn < 4; turn++) {
            cooked.stock(0, 20000);
        }
        Check.due("1999 are left of a tin: stock(0, 18002)", NOT_POSSIBLE, cooked.stock(0, 18002));
        Check.due("1999 are left of a tin: stock(0, 18001)", 100000, cooked.stock(0, 18001));
    }
}
