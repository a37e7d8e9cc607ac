import java.util.function.Supplier;

/** The bounds of the promises 7 to 12: recipe, amount, menu, hands, cook, pass. */
final class RecipeBounds {
    private static final int NO_SUCH = TinKitchen.NO_SUCH;
    private static final int BAD_VALUE = TinKitchen.BAD_VALUE;
    private static final int BAD_TEXT = TinKitchen.BAD_TEXT;
    private static final int TOO_MANY = TinKitchen.TOO_MANY;
    private static final int NOT_POSSIBLE = TinKitchen.NOT_POSSIBLE;

    private RecipeBounds() {
    }

    static void run() {
        recipe();
        recipeErrors();
        amount();
        menu();
        hands();
        cook();
        cookErrors();
        pass();
        passErrors();
    }

    /** Filled, with this text on the pad. */
    private static Supplier<TinKitchen> withPad(String text) {
        return () -> write(Kitchens.filled(), text);
    }

    /** So many ingredients, and this text on the pad. */
    private static Supplier<TinKitchen> ingredientsAndPad(int count, String text) {
        return () -> write(Kitchens.ingredients(count), text);
    }

    /** Filled, with so many recipes and this text on the pad. */
    private static Supplier<TinKitchen> recipesAndPad(int count, String text) {
        return () -> {
            TinKitchen kitchen = Kitchens.filled();
            for (int recipe = 1; recipe < count; recipe++) {
                Check.recipe(kitchen, "1a5");
            }
            return write(kitchen, text);
        };
    }

    private static TinKitchen write(TinKitchen kitchen, String text) {
        kitchen.wipe();
        Check.write(kitchen, text);
        return kitchen;
    }

    private static void recipe() {
        Document.section("Promise 7");
        Document.sentence("Adds the recipe of the pad, and empties the pad");
        TinKitchen kitchen = withPad("20b500;240/3*;1/0@0").get();
        kitchen.recipe();
        Check.due("count(2)", 2, kitchen.count(2));
        Check.due("base portions", 20, kitchen.ofRecipe(1, 0));
        Check.due("steps", 2, kitchen.ofRecipe(1, 1));
        Check.due("portions", 0, kitchen.ofRecipe(1, 2));
        Check.due("what is not named", 0, kitchen.ofRecipe(1, 3));
        Check.due("what is named", 500, kitchen.ofRecipe(1, 4));
        Check.due("the empty pad: count(13)", 0, kitchen.count(13));
        Check.due("the empty pad: fault()", 0, kitchen.fault());
        Check.due("the empty pad: recipe()", BAD_TEXT, kitchen.recipe());
        Check.due("the empty pad: put()", 1, kitchen.put('1'));
        Document.sentence("This is a change");
        Check.change(withPad("3b5;7/2*"), "recipe()", 1, TinKitchen::recipe);
        TinKitchen undone = withPad("3b5;7/2*").get();
        undone.recipe();
        undone.undo();
        Check.due("the pad stays empty behind undo(): count(13)", 0, undone.count(13));
        Document.sentence("Returns its number");
        TinKitchen four = Kitchens.ingredients(1);
        for (int number = 0; number < 4; number++) {
            Check.due("recipe() " + number, number, Check.recipe(four, "1a" + (1 + number)));
            Check.due("its amount", 1 + number, four.ofRecipe(number, 3));
        }
    }

    private static void recipeErrors() {
        Document.sentence("BAD_TEXT if the pad has a fault");
        String[] faulty = {"", "1a", "1x", "21", "1a0", "1;5/4", "1;5/1;"};
        for (String text : faulty) {
            Check.unchanged(withPad(text), "recipe() of " + text, BAD_TEXT, TinKitchen::recipe);
        }
        Check.unchanged(recipesAndPad(4, "1a"), "ahead of TOO_MANY: recipe() of 1a", BAD_TEXT, TinKitchen::recipe);
        Check.unchanged(recipesAndPad(4, ""), "ahead of TOO_MANY: recipe() of nothing", BAD_TEXT, TinKitchen::recipe);
        Check.unchanged(withPad("1c5x"), "ahead of NOT_POSSIBLE: recipe() of 1c5x", BAD_TEXT, TinKitchen::recipe);
        Check.unchanged(recipesAndPad(4, "1c5x"), "ahead of both: recipe() of 1c5x", BAD_TEXT, TinKitchen::recipe);
        Document.sentence("TOO_MANY if there are 4 recipes");
        Check.due("3 there: recipe()", 3, recipesAndPad(3, "1a5").get().recipe());
        Check.unchanged(recipesAndPad(4, "1a5"), "4 there: recipe()", TOO_MANY, TinKitchen::recipe);
        Check.unchanged(recipesAndPad(4, "1c5"), "ahead of NOT_POSSIBLE: recipe() of 1c5", TOO_MANY, TinKitchen::recipe);
        Document.sentence("NOT_POSSIBLE if it names an ingredient that there is not");
        Check.due("none there: recipe() of 1", 0, ingredientsAndPad(0, "1").get().recipe());
        Check.unchanged(ingredientsAndPad(0, "1a1"), "none there: recipe() of 1a1", NOT_POSSIBLE, TinKitchen::recipe);
        Check.due("1 there: recipe() of 1a1", 0, ingredientsAndPad(1, "1a1").get().recipe());
        Check.unchanged(ingredientsAndPad(1, "1b1"), "1 there: recipe() of 1b1", NOT_POSSIBLE, TinKitchen::recipe);
        Check.unchanged(ingredientsAndPad(1, "1b1a1"), "1 there: recipe() of 1b1a1", NOT_POSSIBLE, TinKitchen::recipe);
        Check.unchanged(withPad("1a5h500"), "2 there: recipe() of 1a5h500", NOT_POSSIBLE, TinKitchen::recipe);
        Check.due("7 there: recipe() of 1g1a1", 0, ingredientsAndPad(7, "1g1a1").get().recipe());
        Check.unchanged(ingredientsAndPad(7, "1h1"), "7 there: recipe() of 1h1", NOT_POSSIBLE, TinKitchen::recipe);
        Check.due("8 there: recipe() of 1h1", 0, ingredientsAndPad(8, "1h1").get().recipe());
        TinKitchen later = ingredientsAndPad(1, "1b1").get();
        later.recipe();
        later.ingredient(1);
        Check.due("it is added then: recipe() of 1b1", 0, later.recipe());
    }

    private static void amount() {
        Document.section("Promise 8");
        Document.sentence("Changes an amount for the base portions");
        TinKitchen kitchen = Kitchens.filled();
        kitchen.ingredient(7);
        kitchen.amount(0, 0, 100);
        Check.due("for 4: ofRecipe(0, 3)", 100, kitchen.ofRecipe(0, 3));
        Check.due("for 6: needs(0, 0)", 150, kitchen.needs(0, 0));
        Check.due("the other one: ofRecipe(0, 4)", 30, kitchen.ofRecipe(0, 4));
        kitchen.amount(0, 2, 4);
        Check.due("what the text does not name: needs(2, 0)", 6, kitchen.needs(2, 0));
        Document.sentence("This is a change");
        Check.change(Kitchens::filled, "amount(0, 1, 33)", 30, k -> k.amount(0, 1, 33));
        Document.sentence("`grams`: 0 to 500");
        Check.taken(Kitchens::filled, "amount(0, 0, #)", (k, grams) -> k.amount(0, 0, grams), 0, 200, 500, 200);
        Document.sentence("Returns the previous amount");
        Check.due("amount(0, 0, 500)", 100, kitchen.amount(0, 0, 500));
        Check.due("amount(0, 0, 0)", 500, kitchen.amount(0, 0, 0));
        Check.due("amount(0, 0, 1)", 0, kitchen.amount(0, 0, 1));
        Document.sentence("NO_SUCH if there is no such recipe or ingredient");
        Check.outside(Kitchens::filled, "amount(#, 0, 5)", NO_SUCH, 0, 0, (k, of) -> k.amount(of, 0, 5));
        Check.outside(RecipeBounds::four, "4 there: amount(#, 0, 5)", NO_SUCH, 0, 3, (k, of) -> k.amount(of, 0, 5));
        Check.outside(Kitchens::filled, "amount(0, #, 5)", NO_SUCH, 0, 1, (k, of) -> k.amount(0, of, 5));
        Check.outside(() -> Kitchens.recipes("1"), "8 there: amount(0, #, 5)", NO_SUCH, 0, 7, (k, of) -> k.amount(0, of, 5));
        Check.refused(Kitchens::filled, "ahead of BAD_VALUE: amount(#, 0, 501)", NO_SUCH, (k, of) -> k.amount(of, 0, 501), -1, 1);
        Check.refused(Kitchens::filled, "ahead of BAD_VALUE: amount(0, #, -1)", NO_SUCH, (k, of) -> k.amount(0, of, -1), -1, 2);
        Document.sentence("BAD_VALUE if grams is out of range");
        Check.outside(Kitchens::filled, "amount(0, 0, #)", BAD_VALUE, 0, 500, (k, grams) -> k.amount(0, 0, grams));
    }

    private static TinKitchen four() {
        return recipesAndPad(4, "1").get();
    }

    private static void menu() {
        Document.section("Promise 9");
        Document.sentence("Sets the portions of a recipe in the menu");
        TinKitchen kitchen = Kitchens.filled();
        kitchen.menu(0, 20);
        Check.due("20: ofRecipe(0, 2)", 20, kitchen.ofRecipe(0, 2));
        Check.due("20: needs(0, 0)", 1000, kitchen.needs(0, 0));
        kitchen.menu(0, 0);
        Check.due("0: ofRecipe(0, 2)", 0, kitchen.ofRecipe(0, 2));
        Check.due("0: needs(0, 0)", 0, kitchen.needs(0, 0));
        Document.sentence("This is a change");
        Check.change(Kitchens::filled, "menu(0, 5)", 6, k -> k.menu(0, 5));
        Document.sentence("`portions`: 0 to 20");
        Check.taken(Kitchens::filled, "menu(0, #)", (k, portions) -> k.menu(0, portions), 0, 6, 20, 6);
        Document.sentence("Returns the previous portions");
        Check.due("menu(0, 20)", 0, kitchen.menu(0, 20));
        Check.due("menu(0, 20) again", 20, kitchen.menu(0, 20));
        Check.due("menu(0, 1)", 20, kitchen.menu(0, 1));
        Document.sentence("NO_SUCH if there is no such recipe");
        Check.outside(Kitchens::filled, "menu(#, 5)", NO_SUCH, 0, 0, (k, of) -> k.menu(of, 5));
        Check.outside(RecipeBounds::four, "4 there: menu(#, 5)", NO_SUCH, 0, 3, (k, of) -> k.menu(of, 5));
        Check.refused(Kitchens::filled, "ahead of BAD_VALUE: menu(#, 21)", NO_SUCH, (k, of) -> k.menu(of, 21), -1, 1);
        Document.sentence("BAD_VALUE if portions is out of range");
        Check.outside(Kitchens::filled, "menu(0, #)", BAD_VALUE, 0, 20, (k, portions) -> k.menu(0, portions));
    }

    private static void hands() {
        Document.section("Promise 10");
        Document.sentence("Sets the number of hands");
        TinKitchen kitchen = Kitchens.filled();
        kitchen.hands(1);
        Check.due("1: count(3)", 1, kitchen.count(3));
        Check.due("1: there is a step for two: count(8)", TinKitchen.NONE, kitchen.count(8));
        kitchen.hands(6);
        Check.due("6: count(3)", 6, kitchen.count(3));
        Check.due("6: count(8)", 45, kitchen.count(8));
        Document.sentence("This is a change");
        Check.change(Kitchens::filled, "hands(3)", 2, k -> k.hands(3));
        Document.sentence("`hands`: 1 to 6");
        Check.taken(Kitchens::filled, "hands(#)", TinKitchen::hands, 1, 2, 6, 2);
        Document.sentence("Returns the previous number");
        Check.due("hands(1)", 6, kitchen.hands(1));
        Check.due("hands(1) again", 1, kitchen.hands(1));
        Check.due("of a new kitchen: hands(6)", 2, new TinKitchen().hands(6));
        Document.sentence("BAD_VALUE if hands is out of range");
        Check.outside(Kitchens::filled, "hands(#)", BAD_VALUE, 1, 6, TinKitchen::hands);
    }

    /** All ingredients are needed, the most of each that recipes can need, with the dearest tins. */
    private static TinKitchen dearest() {
        String all = "1a500b500c500d500e500f500g500h500";
        TinKitchen kitchen = Kitchens.recipes(all, all, all, all);
        for (int ingredient = 0; ingredient < 8; ingredient++) {
            kitchen.tin(ingredient, 50, 999);
        }
        for (int recipe = 0; recipe < 4; recipe++) {
            kitchen.menu(recipe, 20);
        }
        return kitchen;
    }

    private static void cook() {
        Document.section("Promise 11");
        Document.sentence("Cooks the menu");
        TinKitchen kitchen = Kitchens.filled();
        kitchen.cook();
        Check.due("count(12)", 2, kitchen.count(12));
        Check.due("count(11)", 99 + 120, kitchen.count(11));
        Check.due("portions", 0, kitchen.ofRecipe(0, 2));
        Document.sentence("This is a change");
        Check.change(Kitchens::filled, "cook()", 120, TinKitchen::cook);
        Document.sentence("Returns the price of the tins that were bought");
        Check.due("nothing is needed: cook()", 0, Kitchens.needing(0).cook());
        TinKitchen pantry = Kitchens.needing(500);
        pantry.tin(0, 50, 1);
        pantry.stock(0, 500);
        Check.due("all is in the pantry: cook()", 0, pantry.cook());
        TinKitchen gram = Kitchens.needing(500);
        gram.tin(0, 50, 1);
        gram.stock(0, 499);
        Check.due("a gram is not: cook()", 1, gram.cook());
        TinKitchen dear = dearest();
        Check.due("the most: cook()", 8 * 800 * 999, dear.cook());
        Check.due("the most: count(11)", 8 * 800 * 999, dear.count(11));
        for (int turn = 2; turn <= 40; turn++) {
            for (int recipe = 0; recipe < 4; recipe++) {
                dear.menu(recipe, 20);
            }
            dear.cook();
        }
        Check.due("the most, forty times: count(11)", 40 * 8 * 800 * 999, dear.count(11));
        Check.due("the most, forty times: about(7, 8)", 40 * 40000, dear.about(7, 8));
    }

    private static void cookErrors() {
        Document.sentence("NOT_POSSIBLE if it cannot be cooked");
        Check.unchanged(TinKitchen::new, "of a new kitchen: cook()", NOT_POSSIBLE, TinKitchen::cook);
        Check.unchanged(RecipeBounds::cooked, "without portions: cook()", NOT_POSSIBLE, TinKitchen::cook);
        Check.unchanged(() -> Kitchens.needing(1), "a gram is missing: cook()", NOT_POSSIBLE, TinKitchen::cook);
        Check.unchanged(RecipeBounds::lastIsMissing, "a gram of the last one is missing: cook()", NOT_POSSIBLE, TinKitchen::cook);
        TinKitchen kitchen = lastIsMissing();
        kitchen.stock(7, 1);
        Check.due("nothing is missing then: cook()", 7, kitchen.cook());
    }

    private static TinKitchen cooked() {
        TinKitchen kitchen = Kitchens.filled();
        kitchen.cook();
        return kitchen;
    }

    private static TinKitchen lastIsMissing() {
        TinKitchen kitchen = Kitchens.menu("1a1h1");
        kitchen.tin(0, 50, 7);
        return kitchen;
    }

    private static void pass() {
        Document.section("Promise 12");
        Document.sentence("Lets days pass");
        TinKitchen kitchen = Kitchens.filled();
        kitchen.pass(1);
        Check.due("count(0)", 2, kitchen.count(0));
        kitchen.pass(60);
        Check.due("count(0)", 62, kitchen.count(0));
        Document.sentence("This is a change");
        Check.change(Kitchens::filled, "pass(3)", 50, k -> k.pass(3));
        Document.sentence("`days`: 1 to 60");
        Check.taken(Kitchens::filled, "pass(#)", TinKitchen::pass, 1, 0, 60, 535);
        Document.sentence("Returns the grams that were thrown away");
        // on the day 1: 20 of a spoil on the day 3, 30 on the day 4; 485 of b on the day 6
        Check.taken(Kitchens::filled, "pass(#)", TinKitchen::pass, 1, 0, 2, 20, 3, 50, 4, 50, 5, 535, 59, 535);
        Check.due("an empty pantry: pass(60)", 0, Kitchens.ingredients(8).pass(60));
        Check.due("no ingredients: pass(60)", 0, new TinKitchen().pass(60));
        TinKitchen full = new TinKitchen();
        for (int ingredient = 0; ingredient < 8; ingredient++) {
            full.ingredient(1);
            for (int turn = 0; turn < 5; turn++) {
                full.stock(ingredient, 20000);
            }
        }
        Check.due("a full pantry: pass(1)", 800000, full.pass(1));
    }

    private static void passErrors() {
        Document.sentence("BAD_VALUE if days is out of range");
        Check.outside(Kitchens::filled, "pass(#)", BAD_VALUE, 1, 60, TinKitchen::pass);
        Check.outside(() -> Kitchens.onDay(3000), "ahead of NOT_POSSIBLE: pass(#)", BAD_VALUE, 1, 60, TinKitchen::pass);
        Document.sentence("NOT_POSSIBLE if the day would be greater than 3000");
        Check.taken(() -> Kitchens.onDay(2940), "day 2940: pass(#)", TinKitchen::pass, 59, 0, 60, 0);
        Check.refused(() -> Kitchens.onDay(2941), "day 2941: pass(#)", NOT_POSSIBLE, TinKitchen::pass, 60);
        Check.taken(() -> Kitchens.onDay(2941), "day 2941: pass(#)", TinKitchen::pass, 59, 0);
        Check.taken(() -> Kitchens.onDay(2999), "day 2999: pass(#)", TinKitchen::pass, 1, 0);
        Check.refused(() -> Kitchens.onDay(2999), "day 2999: pass(#)", NOT_POSSIBLE, TinKitchen::pass, 2, 60);
        Check.refused(() -> Kitchens.onDay(3000), "day 3000: pass(#)", NOT_POSSIBLE, TinKitchen::pass, 1, 60);
        TinKitchen last = Kitchens.onDay(2999);
        last.pass(1);
        Check.due("the last day: count(0)", 3000, last.count(0));
        Check.due("the last day: stock(1, 5)", 5, last.stock(1, 5));
        Check.due("the last day: about(1, 7)", 3005, last.about(1, 7));
        Check.due("the last day: save(0)", 3000, last.save(0));
    }
}
