import java.util.List;
import java.util.function.IntUnaryOperator;

/** The bounds of the conventions, of ingredients and recipes, and of promise 1. */
final class TermBounds {
    private static final int NO_SUCH = TinKitchen.NO_SUCH;
    private static final int BAD_VALUE = TinKitchen.BAD_VALUE;
    private static final int BAD_TEXT = TinKitchen.BAD_TEXT;
    private static final int TOO_MANY = TinKitchen.TOO_MANY;
    private static final int NOT_POSSIBLE = TinKitchen.NOT_POSSIBLE;
    private static final int NONE = TinKitchen.NONE;

    private TermBounds() {
    }

    static void run() {
        aNewKitchen();
        manyCalls();
        codes();
        orderOfErrors();
        errorsChangeNothing();
        none();
        rounding();
        numbersAndSets();
        ingredients();
        recipes();
        portions();
    }

    private static void aNewKitchen() {
        Document.section("Promise 1");
        Document.sentence("Creates a kitchen without ingredients and recipes, on the day 0");
        int[] counts = {0, 0, 0, 2, 0, 0, 0, 0, 0, 0, 0, 0, 0, 0, 0};
        for (int what = 0; what < counts.length; what++) {
            Check.due("count(" + what + ")", counts[what], new TinKitchen().count(what));
        }
        Check.due("about(0, 0)", NO_SUCH, new TinKitchen().about(0, 0));
        Check.due("ofTin(0, 0, 0)", NO_SUCH, new TinKitchen().ofTin(0, 0, 0));
        Check.due("needs(0, 0)", NO_SUCH, new TinKitchen().needs(0, 0));
        Check.due("step(0, 0, 0)", NO_SUCH, new TinKitchen().step(0, 0, 0));
        Check.due("ofRecipe(0, 0)", NO_SUCH, new TinKitchen().ofRecipe(0, 0));
        Check.due("fewestHands(0)", 1, new TinKitchen().fewestHands(0));
        Check.due("cook()", NOT_POSSIBLE, new TinKitchen().cook());
        Check.due("recipe()", BAD_TEXT, new TinKitchen().recipe());
        Check.due("wipe()", 0, new TinKitchen().wipe());
        Check.due("fault()", 0, new TinKitchen().fault());
        Check.due("undo()", NOT_POSSIBLE, new TinKitchen().undo());
        Check.due("restore(0)", NOT_POSSIBLE, new TinKitchen().restore(0));
        Check.due("restore(1)", NOT_POSSIBLE, new TinKitchen().restore(1));
        TinKitchen first = Kitchens.filled();
        Check.same("a new one beside another one", Check.look(new TinKitchen()), Check.look(new TinKitchen()));
        Check.due("another one beside a new one", 5, first.count(14));
    }

    private static void manyCalls() {
        Document.section("What it is");
        Document.sentence("An object is used for at most 512 calls after it has been made");
        TinKitchen kitchen = new TinKitchen();
        kitchen.ingredient(30);
        for (int turn = 0; turn < 170; turn++) {
            int there = 10 * Math.min(turn + 1, 30);
            Check.due("stock(0, 10), turn " + turn, there, kitchen.stock(0, 10));
            Check.due("pass(1), turn " + turn, turn < 29 ? 0 : 10, kitchen.pass(1));
            Check.due("count(0), turn " + turn, turn + 1, kitchen.count(0));
        }
        Check.due("the 512th call: undo()", 5, kitchen.undo());
    }

    private static void codes() {
        Document.section("Terms");
        Document.sentence("A method that fails returns one of the error codes NO_SUCH (-1), BAD_VALUE (-2), BAD_TEXT (-3), "
            + "TOO_MANY (-4) and NOT_POSSIBLE (-5)");
        TinKitchen kitchen = Kitchens.ingredients(8);
        Check.due("menu(0, 1)", -1, kitchen.menu(0, 1));
        Check.due("hands(7)", -2, kitchen.hands(7));
        Check.due("recipe()", -3, kitchen.recipe());
        Check.due("ingredient(1)", -4, kitchen.ingredient(1));
        Check.due("cook()", -5, kitchen.cook());
        Check.due("about(0, 3)", -6, kitchen.about(0, 3));
        Document.section("Texts");
        Document.sentence("The constants: `NO_SUCH = -1, BAD_VALUE = -2, BAD_TEXT = -3, TOO_MANY = -4, NOT_POSSIBLE = -5, NONE = -6`");
        int[] constants = {NO_SUCH, BAD_VALUE, BAD_TEXT, TOO_MANY, NOT_POSSIBLE, NONE};
        for (int at = 0; at < constants.length; at++) {
            Check.due("constant " + at, -1 - at, constants[at]);
        }
    }

    private static void orderOfErrors() {
        Document.section("Terms");
        Document.sentence("it names its errors in the order in which they are checked, and the first one that applies is returned");
        TinKitchen kitchen = Kitchens.filled();
        kitchen.tin(0, 50, 5);
        kitchen.tin(0, 60, 6);
        Check.due("all four: tin(2, 49, 0)", NO_SUCH, kitchen.tin(2, 49, 0));
        Check.due("the last three: tin(0, 100, 0)", BAD_VALUE, kitchen.tin(0, 100, 0));
        Check.due("the last two: tin(0, 100, 1)", TOO_MANY, kitchen.tin(0, 100, 1));
        Check.due("the last one: tin(1, 500, 1)", NOT_POSSIBLE, kitchen.tin(1, 500, 1));
        Check.recipe(kitchen, "1");
        Check.recipe(kitchen, "1");
        Check.recipe(kitchen, "1");
        Check.due("all three: recipe()", BAD_TEXT, Check.recipe(kitchen, "1h5x"));
        Check.due("the last two: recipe()", TOO_MANY, Check.recipe(kitchen, "1h5"));
        kitchen.undo();
        Check.due("the last one: recipe()", NOT_POSSIBLE, kitchen.recipe());
    }

    private static void errorsChangeNothing() {
        Document.sentence("A call that returns an error changes nothing");
        TinKitchen kitchen = Kitchens.filled();
        String before = Check.look(kitchen);
        int[] answers = {kitchen.ingredient(31), kitchen.tin(0, 100, 1), kitchen.buyable(2, 0), kitchen.substitute(0, 0, 50),
            kitchen.stock(0, 20001), kitchen.recipe(), kitchen.amount(1, 0, 5), kitchen.menu(0, -1), kitchen.hands(7),
            kitchen.pass(61), kitchen.about(0, 12), kitchen.ofTin(0, 1, 0), kitchen.needs(2, 0), kitchen.step(0, 3, 0),
            kitchen.ofRecipe(0, 11), kitchen.count(15), kitchen.bestPortions(0, 5, 4), kitchen.fewestHands(5001),
            kitchen.ifBuyable(0, 2), kitchen.put(32), kitchen.save(2), kitchen.restore(2)};
        for (int at = 0; at < answers.length; at++) {
            Check.due("call " + at + " is refused", 1, answers[at] < 0 && answers[at] > NONE ? 1 : 0);
        }
        Check.same("the kitchen behind refused calls", before, Check.look(kitchen));
    }

    private static void none() {
        Document.sentence("NONE (-6) is not an error");
        TinKitchen changed = Kitchens.filled();
        Check.due("substitute(1, NONE, 0)", NONE, changed.substitute(1, NONE, 0));
        Check.due("it is a change: count(14)", 6, changed.count(14));
        Check.due("it can be undone: undo()", 5, changed.undo());
        Document.sentence("it is returned only if no error applies");
        TinKitchen kitchen = Kitchens.needing(1);
        Check.due("about(0, 7)", NONE, kitchen.about(0, 7));
        Check.due("about(1, 7)", NO_SUCH, kitchen.about(1, 7));
        Check.due("ifBuyable(0, 1)", NONE, kitchen.ifBuyable(0, 1));
        Check.due("ifBuyable(1, 1)", NO_SUCH, kitchen.ifBuyable(1, 1));
        Check.due("ifBuyable(0, 2)", BAD_VALUE, kitchen.ifBuyable(0, 2));
        Check.due("bestPortions(0, 1, 20)", NONE, kitchen.bestPortions(0, 1, 20));
        Check.due("bestPortions(1, 1, 20)", NO_SUCH, kitchen.bestPortions(1, 1, 20));
        Check.due("bestPortions(0, 1, 21)", BAD_VALUE, kitchen.bestPortions(0, 1, 21));
        Check.recipe(kitchen, "1;5/3");
        Check.due("step(1, 0, 5)", NONE, kitchen.step(1, 0, 5));
        Check.due("step(1, 1, 5)", NO_SUCH, kitchen.step(1, 1, 5));
        Check.due("step(1, 0, 6)", BAD_VALUE, kitchen.step(1, 0, 6));
        kitchen.menu(1, 1);
        Check.due("count(8)", NONE, kitchen.count(8));
        Check.due("fewestHands(4)", NONE, kitchen.fewestHands(4));
        Check.due("fewestHands(-1)", BAD_VALUE, kitchen.fewestHands(-1));
    }

    private static void rounding() {
        Document.sentence("Quotients that are \"rounded up\" are the least integer that is not less");
        int[][] basesAmountsPortionsGrams = {{1, 0, 20, 0}, {20, 1, 1, 1}, {20, 1, 20, 1}, {20, 20, 1, 1}, {20, 21, 1, 2},
            {20, 19, 1, 1}, {3, 1, 2, 1}, {3, 1, 3, 1}, {3, 1, 4, 2}, {3, 2, 20, 14}, {7, 500, 20, 1429}, {7, 490, 20, 1400},
            {1, 500, 20, 10000}, {1, 1, 1, 1}};
        for (int[] row : basesAmountsPortionsGrams) {
            TinKitchen kitchen = Kitchens.recipes(row[0] + "");
            kitchen.amount(0, 0, row[1]);
            kitchen.menu(0, row[2]);
            Check.due(row[1] + " for " + row[0] + ", of " + row[2] + ": needs(0, 0)", row[3], kitchen.needs(0, 0));
        }
    }

    private static void numbersAndSets() {
        Document.sentence("Everything is numbered from 0");
        TinKitchen kitchen = new TinKitchen();
        Check.due("the first day", 0, kitchen.count(0));
        Check.due("the first ingredient", 0, kitchen.ingredient(1));
        kitchen.tin(0, 70, 7);
        Check.due("the first kind", 70, kitchen.ofTin(0, 0, 0));
        Check.due("the first character", 0, kitchen.fault());
        Check.due("the first recipe", 0, Check.recipe(kitchen, "1;5/1"));
        kitchen.menu(0, 1);
        Check.due("the first step, the first time", 0, kitchen.step(0, 0, 5));
        Check.due("the first slot", 0, kitchen.save(0));
        Document.sentence("Sets are bit masks");
        TinKitchen all = Kitchens.menu("1a1h1");
        Check.due("0 and 7 are missing: count(6)", 129, all.count(6));
        for (int ingredient = 0; ingredient < 8; ingredient++) {
            all.amount(0, ingredient, 1);
        }
        Check.due("all are missing: count(6)", 255, all.count(6));
        Check.due("0 and 6 come before: step(0, 7, 2)", 65, Kitchens.recipes("1" + ";5/1".repeat(8) + "@0@6").step(0, 7, 2));
    }

    private static void ingredients() {
        Document.section("Ingredients");
        Document.sentence("There are up to 8 ingredients, of the names a to h (0 to 7)");
        TinKitchen eight = Kitchens.ingredients(7);
        Check.due("the eighth: ingredient(8)", 7, eight.ingredient(8));
        Check.due("a ninth: ingredient(9)", TOO_MANY, eight.ingredient(9));
        Check.recipe(eight, "1a11b12c13d14e15f16g17h18");
        for (int ingredient = 0; ingredient < 8; ingredient++) {
            Check.due("the amount of " + (char) ('a' + ingredient), 11 + ingredient, eight.ofRecipe(0, 3 + ingredient));
        }
        Document.sentence("An ingredient keeps for some days (1 to 30), and can be bought or not (it can, at first)");
        Check.taken(TinKitchen::new, "ingredient(#)", TinKitchen::ingredient, 0, BAD_VALUE, 1, 0, 30, 0, 31, BAD_VALUE);
        Check.due("at first: about(0, 1)", 1, eight.about(0, 1));
        Document.sentence("It has up to 3 kinds of tins, each with a size (50 to 2000) and a price (1 to 999)");
        Check.due("the first kind", 1, eight.tin(0, 50, 999));
        Check.due("the second kind", 2, eight.tin(0, 2000, 1));
        Check.due("too small", BAD_VALUE, eight.tin(0, 49, 1));
        Check.due("too large", BAD_VALUE, eight.tin(0, 2001, 1));
        Check.due("too cheap", BAD_VALUE, eight.tin(0, 51, 0));
        Check.due("too dear", BAD_VALUE, eight.tin(0, 51, 1000));
        Check.due("the third kind", 3, eight.tin(0, 51, 1));
        Check.due("a fourth kind", TOO_MANY, eight.tin(0, 52, 1));
        kinds(eight);
        substitutes(eight);
        lots();
    }

    private static void kinds(TinKitchen eight) {
        Document.sentence("no two kinds of an ingredient have the same size");
        Check.due("of another ingredient: tin(1, 50, 999)", 1, eight.tin(1, 50, 999));
        Check.due("the same size: tin(1, 50, 998)", NOT_POSSIBLE, eight.tin(1, 50, 998));
        Check.due("the same price: tin(1, 51, 999)", 2, eight.tin(1, 51, 999));
    }

    private static void substitutes(TinKitchen eight) {
        Document.sentence("It can have a substitute: a later ingredient, and a rate (10 to 200)");
        Check.due("the next one", NONE, eight.substitute(0, 1, 10));
        Check.due("the last one", 1, eight.substitute(0, 7, 200));
        Check.due("itself", BAD_VALUE, eight.substitute(1, 1, 100));
        Check.due("an earlier one", BAD_VALUE, eight.substitute(1, 0, 100));
        Check.due("for the last one", BAD_VALUE, eight.substitute(7, 7, 100));
        Check.due("too low a rate", BAD_VALUE, eight.substitute(0, 7, 9));
        Check.due("too high a rate", BAD_VALUE, eight.substitute(0, 7, 201));
    }

    private static void lots() {
        Document.sentence("The pantry has lots of ingredients: each has a weight, and the day on which it spoils");
        TinKitchen lots = Kitchens.ingredients(2);
        Check.due("none: about(0, 6)", 0, lots.about(0, 6));
        Check.due("none: about(0, 7)", NONE, lots.about(0, 7));
        lots.stock(0, 1);
        lots.stock(1, 20000);
        Check.due("1 gram: about(0, 5)", 1, lots.about(0, 5));
        Check.due("day 1: about(0, 7)", 1, lots.about(0, 7));
        Check.due("20000 grams: about(1, 5)", 20000, lots.about(1, 5));
        Check.due("day 2: about(1, 7)", 2, lots.about(1, 7));
    }

    private static void recipes() {
        Document.section("Recipes");
        Document.sentence("There are up to 4 recipes");
        TinKitchen kitchen = Kitchens.recipes("1", "20", "1");
        Check.due("the fourth", 3, Check.recipe(kitchen, "1"));
        Check.due("a fifth", TOO_MANY, Check.recipe(kitchen, "1"));
        Document.sentence("A recipe has base portions (1 to 20), for each ingredient an amount for the base portions "
            + "(0 to 500; 0 at first), and up to 8 steps");
        Check.due("1 base portion", 1, kitchen.ofRecipe(0, 0));
        Check.due("20 base portions", 20, kitchen.ofRecipe(1, 0));
        for (int ingredient = 0; ingredient < 8; ingredient++) {
            Check.due("the amount at first", 0, kitchen.ofRecipe(0, 3 + ingredient));
            Check.due("the most", 0, kitchen.amount(0, ingredient, 500));
            Check.due("more", BAD_VALUE, kitchen.amount(0, ingredient, 501));
            Check.due("less than nothing", BAD_VALUE, kitchen.amount(0, ingredient, -1));
        }
        Check.due("no steps", 0, kitchen.ofRecipe(0, 1));
        Check.due("8 steps", 8, Kitchens.recipes("1" + ";5/1".repeat(8)).ofRecipe(0, 1));
        Check.due("9 steps", BAD_TEXT, Check.recipe(new TinKitchen(), "1" + ";5/1".repeat(9)));
        Document.sentence("A step has a duration (1 to 240), the hands that it needs (0 to 3), a set of earlier steps of the recipe "
            + "that come before it, and grows or not");
        TinKitchen steps = Kitchens.recipes("1;1/0;240/3*@0");
        List<IntUnaryOperator> asked = List.of(what -> steps.step(0, 0, what), what -> steps.step(0, 1, what));
        int[][] due = {{1, 0, 0, 0}, {240, 3, 1, 1}};
        for (int step = 0; step < 2; step++) {
            for (int what = 0; what < 4; what++) {
                Check.due("step(0, " + step + ", " + what + ")", due[step][what], asked.get(step).applyAsInt(what));
            }
        }
        Document.sentence("The menu has, for each recipe, portions (0 to 20; 0 at first)");
        Check.due("at first: ofRecipe(3, 2)", 0, kitchen.ofRecipe(3, 2));
        Check.due("the most: menu(3, 20)", 0, kitchen.menu(3, 20));
        Check.due("more: menu(3, 21)", BAD_VALUE, kitchen.menu(3, 21));
        Check.due("less than none: menu(3, -1)", BAD_VALUE, kitchen.menu(3, -1));
        Check.due("none: menu(3, 0)", 20, kitchen.menu(3, 0));
    }

    private static void portions() {
        Document.sentence("For the portions p, the recipe needs of an ingredient: amount * p / base portions, rounded up");
        TinKitchen kitchen = Kitchens.recipes("3a10;10/1*;10/1");
        int[] grams = {0, 4, 7, 10, 14, 17, 20, 24};
        for (int portions = 0; portions < grams.length; portions++) {
            kitchen.menu(0, portions);
            Check.due(portions + ": needs(0, 0)", grams[portions], kitchen.needs(0, 0));
        }
        Document.sentence("A step that grows lasts duration * p / base portions, rounded up");
        for (int portions = 1; portions < grams.length; portions++) {
            kitchen.menu(0, portions);
            Check.due(portions + ": step(0, 0, 0)", grams[portions], kitchen.step(0, 0, 0));
        }
        TinKitchen bounds = Kitchens.recipes("20;1/0*", "1;240/0*");
        bounds.menu(0, 1);
        bounds.menu(1, 20);
        Check.due("the shortest", 1, bounds.step(0, 0, 0));
        Check.due("the longest", 4800, bounds.step(1, 0, 0));
        bounds.menu(0, 20);
        Check.due("1 for 20, of 20", 1, bounds.step(0, 0, 0));
        Document.sentence("one that does not lasts its duration");
        for (int portions = 0; portions <= 20; portions += 5) {
            kitchen.menu(0, portions);
            Check.due(portions + ": step(0, 1, 0)", 10, kitchen.step(0, 1, 0));
        }
    }
}
