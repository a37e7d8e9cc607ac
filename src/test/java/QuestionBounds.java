import java.util.function.IntUnaryOperator;
import java.util.function.Supplier;

/** The bounds of the promises 13 to 18: about, ofTin, needs, step, ofRecipe, count. */
final class QuestionBounds {
    private static final int NO_SUCH = TinKitchen.NO_SUCH;
    private static final int BAD_VALUE = TinKitchen.BAD_VALUE;
    private static final int NONE = TinKitchen.NONE;

    private QuestionBounds() {
    }

    static void run() {
        about();
        aboutPantry();
        ofTin();
        needs();
        step();
        stepErrors();
        ofRecipe();
        count();
        countMenu();
        countChanges();
    }

    /** What is answered to 0, 1, 2 .. */
    private static void answers(String call, IntUnaryOperator asked, int... due) {
        for (int what = 0; what < due.length; what++) {
            Check.due(call.replace("#", "" + what), due[what], asked.applyAsInt(what));
        }
    }

    /** Nothing but these numbers can be asked for, and to ask for one changes nothing. */
    private static void whats(Supplier<TinKitchen> start, String call, int most, Check.Call asked) {
        for (int what = 0; what <= most; what++) {
            int number = what;
            int answer = asked.of(start.get(), what);
            Check.unchanged(start, call.replace("#", "" + what), answer, kitchen -> asked.of(kitchen, number));
        }
        Document.sentence("BAD_VALUE if what is out of range");
        Check.outside(start, call, BAD_VALUE, 0, most, asked);
    }

    private static void about() {
        Document.section("Promise 13");
        Document.sentence("Returns a number about an ingredient");
        TinKitchen filled = Kitchens.filled();
        answers("about(0, #)", what -> filled.about(0, what), 3, 1, 1, 1, 50, 50, 2, 3, 0, 100, 0, 150);
        answers("about(1, #)", what -> filled.about(1, what), 5, 1, 1, NONE, NONE, 485, 1, 6, 500, 15, 0, 0);
        Document.sentence("Returns the number");
        TinKitchen fresh = Kitchens.ingredients(8);
        answers("nothing of it: about(0, #)", what -> fresh.about(0, what), 1, 1, 0, NONE, NONE, 0, 0, NONE, 0, 0, 0, 0);
        answers("nothing of it: about(7, #)", what -> fresh.about(7, what), 8, 1, 0, NONE, NONE, 0, 0, NONE, 0, 0, 0, 0);
        Document.sentence("NO_SUCH if there is no such ingredient");
        Check.outside(Kitchens::filled, "about(#, 0)", NO_SUCH, 0, 1, (k, of) -> k.about(of, 0));
        Check.outside(() -> Kitchens.ingredients(8), "8 there: about(#, 11)", NO_SUCH, 0, 7, (k, of) -> k.about(of, 11));
        Check.refused(Kitchens::filled, "ahead of BAD_VALUE: about(#, 12)", NO_SUCH, (k, of) -> k.about(of, 12), -1, 2);
    }

    private static void aboutPantry() {
        Document.sentence("`what`: 0 for how many days it keeps, 1 whether it can be bought (1 or 0), 2 its kinds of tins, 3 its "
            + "substitute (NONE if it has none), 4 the rate of that (NONE without a substitute)");
        TinKitchen kitchen = new TinKitchen();
        kitchen.ingredient(30);
        kitchen.ingredient(1);
        Check.due("0: about(0, 0)", 30, kitchen.about(0, 0));
        Check.due("0: about(1, 0)", 1, kitchen.about(1, 0));
        kitchen.buyable(0, 0);
        Check.due("1: about(0, 1)", 0, kitchen.about(0, 1));
        for (int kinds = 1; kinds <= 3; kinds++) {
            kitchen.tin(0, 50 * kinds, 1);
            Check.due("2: about(0, 2)", kinds, kitchen.about(0, 2));
        }
        kitchen.substitute(0, 1, 200);
        Check.due("3: about(0, 3)", 1, kitchen.about(0, 3));
        Check.due("4: about(0, 4)", 200, kitchen.about(0, 4));
        kitchen.substitute(0, NONE, 200);
        Check.due("3, without: about(0, 3)", NONE, kitchen.about(0, 3));
        Check.due("4, without: about(0, 4)", NONE, kitchen.about(0, 4));
        aboutLots();
        aboutAccounts();
        whats(Kitchens::filled, "about(0, #)", 11, (k, what) -> k.about(0, what));
    }

    private static void aboutLots() {
        Document.sentence("6 its lots, 7 the day on which the first lot spoils (NONE without lots)");
        TinKitchen kitchen = new TinKitchen();
        kitchen.ingredient(30);
        for (int day = 0; day < 30; day++) {
            kitchen.stock(0, 1);
            Check.due("6, one for each day: about(0, 6)", 1 + day, kitchen.about(0, 6));
            Check.due("7, the first of them: about(0, 7)", 30, kitchen.about(0, 7));
            kitchen.pass(1);
        }
        Check.due("6, the first is away: about(0, 6)", 29, kitchen.about(0, 6));
        Check.due("7, the first is away: about(0, 7)", 31, kitchen.about(0, 7));
        kitchen.pass(28);
        Check.due("6, the last is there: about(0, 6)", 1, kitchen.about(0, 6));
        Check.due("7, the last is there: about(0, 7)", 59, kitchen.about(0, 7));
        kitchen.pass(1);
        Check.due("6, all are away: about(0, 6)", 0, kitchen.about(0, 6));
        Check.due("7, all are away: about(0, 7)", NONE, kitchen.about(0, 7));
    }

    private static void aboutAccounts() {
        Document.sentence("8 all grams that were bought, 9 all that were used, 10 all that were thrown away, 11 all that were put in by "
            + "stock()");
        TinKitchen kitchen = new TinKitchen();
        kitchen.ingredient(30);
        for (int day = 0; day < 5; day++) {
            kitchen.stock(0, 20000);
            kitchen.pass(1);
        }
        answers("full: about(0, #)", what -> kitchen.about(0, what), 30, 1, 0, NONE, NONE, 100000, 5, 30, 0, 0, 0, 100000);
        kitchen.pass(24);
        Check.due("7, on the day before: about(0, 7)", 30, kitchen.about(0, 7));
        kitchen.pass(1);
        answers("one is away: about(0, #)", what -> kitchen.about(0, what), 30, 1, 0, NONE, NONE, 80000, 4, 31, 0, 0, 20000, 100000);
        kitchen.pass(4);
        answers("all are away: about(0, #)", what -> kitchen.about(0, what), 30, 1, 0, NONE, NONE, 0, 0, NONE, 0, 0, 100000, 100000);
        TinKitchen cooked = Kitchens.needing(51);
        cooked.tin(0, 50, 1);
        cooked.stock(0, 1);
        cooked.cook();
        answers("nothing is left over: about(0, #)", what -> cooked.about(0, what), 30, 1, 1, NONE, NONE, 0, 0, NONE, 50, 51, 0, 1);
    }

    private static void ofTin() {
        Document.section("Promise 14");
        Document.sentence("Returns a number about a kind of tins");
        TinKitchen kitchen = Kitchens.filled();
        answers("ofTin(0, 0, #)", what -> kitchen.ofTin(0, 0, what), 100, 40, 3);
        answers("ofTin(1, 0, #)", what -> kitchen.ofTin(1, 0, what), 500, 99, 0);
        Document.sentence("`what`: 0 its size, 1 its price, 2 how many of it are bought for the menu");
        TinKitchen bounds = Kitchens.menu("1a500h500");
        bounds.tin(0, 50, 999);
        bounds.tin(0, 2000, 1);
        bounds.tin(7, 50, 1);
        answers("ofTin(0, 0, #)", what -> bounds.ofTin(0, 0, what), 50, 999, 0);
        answers("ofTin(0, 1, #)", what -> bounds.ofTin(0, 1, what), 2000, 1, 1);
        answers("ofTin(7, 0, #)", what -> bounds.ofTin(7, 0, what), 50, 1, 10);
        bounds.menu(0, 0);
        Check.due("nothing is needed: ofTin(7, 0, 2)", 0, bounds.ofTin(7, 0, 2));
        bounds.menu(0, 20);
        Check.due("10000 are needed: ofTin(7, 0, 2)", 200, bounds.ofTin(7, 0, 2));
        bounds.buyable(7, 0);
        Check.due("it cannot be bought: ofTin(7, 0, 2)", 0, bounds.ofTin(7, 0, 2));
        Document.sentence("Returns the number");
        Check.due("the last kind: ofTin(0, 2, 1)", 8, threeKinds().ofTin(0, 2, 1));
        Document.sentence("NO_SUCH if there is no such ingredient or kind");
        Check.outside(Kitchens::filled, "ofTin(#, 0, 0)", NO_SUCH, 0, 1, (k, of) -> k.ofTin(of, 0, 0));
        Check.outside(Kitchens::filled, "1 there: ofTin(0, #, 0)", NO_SUCH, 0, 0, (k, kind) -> k.ofTin(0, kind, 0));
        Check.outside(QuestionBounds::threeKinds, "3 there: ofTin(0, #, 2)", NO_SUCH, 0, 2, (k, kind) -> k.ofTin(0, kind, 2));
        Check.refused(() -> Kitchens.ingredients(2), "none there: ofTin(0, #, 0)", NO_SUCH, (k, kind) -> k.ofTin(0, kind, 0), -1, 0, 1);
        Check.refused(Kitchens::filled, "ahead of BAD_VALUE: ofTin(#, 0, 3)", NO_SUCH, (k, of) -> k.ofTin(of, 0, 3), -1, 2);
        Check.refused(Kitchens::filled, "ahead of BAD_VALUE: ofTin(0, #, -1)", NO_SUCH, (k, kind) -> k.ofTin(0, kind, -1), -1, 1);
        whats(Kitchens::filled, "ofTin(0, 0, #)", 2, (k, what) -> k.ofTin(0, 0, what));
    }

    private static TinKitchen threeKinds() {
        TinKitchen kitchen = Kitchens.filled();
        kitchen.tin(0, 60, 7);
        kitchen.tin(0, 70, 8);
        return kitchen;
    }

    private static void needs() {
        Document.section("Promise 15");
        Document.sentence("Returns a number about what the menu needs of an ingredient");
        TinKitchen filled = Kitchens.filled();
        answers("needs(0, #)", what -> filled.needs(0, what), 300, 0, 50, 300, 50, 0, 0, 120);
        answers("needs(1, #)", what -> filled.needs(1, what), 45, 0, 45, 0, 0, 0, 0, 0);
        Document.sentence("`what`: 0 what is needed (in all), 1 what of it replaces earlier ones");
        filled.buyable(0, 0);
        answers("replaced: needs(0, #)", what -> filled.needs(0, what), 300, 0, 50, 0, 0, 250, 0, 0);
        answers("replaced: needs(1, #)", what -> filled.needs(1, what), 170, 125, 170, 0, 0, 0, 0, 0);
        filled.substitute(0, NONE, 0);
        answers("missing: needs(0, #)", what -> filled.needs(0, what), 300, 0, 50, 0, 0, 0, 250, 0);
        answers("nothing replaced: needs(1, #)", what -> filled.needs(1, what), 45, 0, 45, 0, 0, 0, 0, 0);
        Document.sentence("Returns the number");
        filled.menu(0, 0);
        answers("nothing needed: needs(0, #)", what -> filled.needs(0, what), 0, 0, 0, 0, 0, 0, 0, 0);
        answers("nothing needed: needs(1, #)", what -> filled.needs(1, what), 0, 0, 0, 0, 0, 0, 0, 0);
        TinKitchen last = Kitchens.menu("1h500");
        answers("the last one: needs(7, #)", what -> last.needs(7, what), 500, 0, 0, 0, 0, 0, 500, 0);
        Document.sentence("NO_SUCH if there is no such ingredient");
        Check.outside(Kitchens::filled, "needs(#, 0)", NO_SUCH, 0, 1, (k, of) -> k.needs(of, 0));
        Check.outside(() -> Kitchens.ingredients(8), "8 there: needs(#, 7)", NO_SUCH, 0, 7, (k, of) -> k.needs(of, 7));
        Check.refused(Kitchens::filled, "ahead of BAD_VALUE: needs(#, 8)", NO_SUCH, (k, of) -> k.needs(of, 8), -1, 2);
        whats(Kitchens::filled, "needs(0, #)", 7, (k, what) -> k.needs(0, what));
    }

    private static final String EIGHT_STEPS = "1;1/0;2/1;3/2;4/3;5/0;6/0*;240/0@0@5;7/1*@0@1@2@3@4@5@6";

    private static void step() {
        Document.section("Promise 16");
        Document.sentence("Returns a number about a step of a recipe, for the portions of the menu");
        TinKitchen kitchen = Kitchens.filled();
        answers("step(0, 0, #)", what -> kitchen.step(0, 0, what), 10, 1, 0, 0, 45, 0);
        answers("step(0, 1, #)", what -> kitchen.step(0, 1, what), 30, 2, 1, 1, 35, 10);
        answers("step(0, 2, #)", what -> kitchen.step(0, 2, what), 5, 0, 3, 0, 5, 40);
        Document.sentence("`what`: 0 how long it lasts, 1 its hands, 2 the set of those that come before it");
        TinKitchen eight = Kitchens.menu("1;1/0;2/1;3/2;4/3;5/0;6/0*;240/0@0;7/1*@0@1@2@3@4@5@6");
        eight.hands(3);
        eight.menu(0, 2);
        answers("step(0, 0, #)", what -> eight.step(0, 0, what), 1, 0, 0, 0, 1 + 240 + 14, 0);
        answers("step(0, 3, #)", what -> eight.step(0, 3, what), 4, 3, 0, 0, 4 + 14, 0);
        answers("step(0, 2, #)", what -> eight.step(0, 2, what), 3, 2, 0, 0, 3 + 14, 4);
        answers("step(0, 5, #)", what -> eight.step(0, 5, what), 12, 0, 0, 1, 12 + 14, 0);
        answers("step(0, 6, #)", what -> eight.step(0, 6, what), 240, 0, 1, 0, 240 + 14, 1);
        answers("step(0, 7, #)", what -> eight.step(0, 7, what), 14, 1, 127, 1, 14, 241);
        eight.hands(2);
        Check.due("never: step(0, 3, 5)", NONE, eight.step(0, 3, 5));
        Check.due("its tail: step(0, 3, 4)", 18, eight.step(0, 3, 4));
        Check.due("what is behind it: step(0, 7, 5)", NONE, eight.step(0, 7, 5));
        Check.due("what is not: step(0, 6, 5)", 1, eight.step(0, 6, 5));
        eight.menu(0, 0);
        Check.due("no portions: step(0, 6, 4)", NONE, eight.step(0, 6, 4));
        Check.due("no portions: step(0, 6, 5)", NONE, eight.step(0, 6, 5));
        Document.sentence("Returns the number (0: for 0 portions, what it is for the base portions)");
        TinKitchen three = Kitchens.recipes("3;10/1*;10/1");
        int[] portionsAndDurations = {0, 10, 1, 4, 2, 7, 3, 10, 4, 14, 20, 67};
        for (int at = 0; at < portionsAndDurations.length; at += 2) {
            int portions = portionsAndDurations[at];
            three.menu(0, portions);
            Check.due(portions + ": it grows: step(0, 0, 0)", portionsAndDurations[at + 1], three.step(0, 0, 0));
            Check.due(portions + ": it does not grow: step(0, 1, 0)", 10, three.step(0, 1, 0));
        }
    }

    private static void stepErrors() {
        Document.sentence("NO_SUCH if there is no such recipe or step");
        Check.outside(Kitchens::filled, "step(#, 0, 0)", NO_SUCH, 0, 0, (k, of) -> k.step(of, 0, 0));
        Check.outside(Kitchens::filled, "3 there: step(0, #, 0)", NO_SUCH, 0, 2, (k, step) -> k.step(0, step, 0));
        Check.outside(() -> Kitchens.menu(EIGHT_STEPS), "8 there: step(0, #, 5)", NO_SUCH, 0, 7, (k, step) -> k.step(0, step, 5));
        Check.outside(() -> Kitchens.menu("1", "1", "1", "1;5/1"), "4 there: step(#, 0, 4)", NO_SUCH, 0, 3,
            (k, of) -> k.step(of, 0, 4));
        Check.refused(() -> Kitchens.menu("1"), "none there: step(0, #, 0)", NO_SUCH, (k, step) -> k.step(0, step, 0), -1, 0, 1);
        Check.refused(Kitchens::filled, "ahead of BAD_VALUE: step(#, 0, 6)", NO_SUCH, (k, of) -> k.step(of, 0, 6), -1, 1);
        Check.refused(Kitchens::filled, "ahead of BAD_VALUE: step(0, #, -1)", NO_SUCH, (k, step) -> k.step(0, step, -1), -1, 3);
        whats(Kitchens::filled, "step(0, 1, #)", 5, (k, what) -> k.step(0, 1, what));
        Check.outside(QuestionBounds::noPortions, "no portions: step(0, 1, #)", BAD_VALUE, 0, 5, (k, what) -> k.step(0, 1, what));
    }

    private static TinKitchen noPortions() {
        TinKitchen kitchen = Kitchens.filled();
        kitchen.menu(0, 0);
        return kitchen;
    }

    private static void ofRecipe() {
        Document.section("Promise 17");
        Document.sentence("Returns a number about a recipe");
        TinKitchen filled = Kitchens.filled();
        answers("ofRecipe(0, #)", what -> filled.ofRecipe(0, what), 4, 3, 6, 200, 30, 0, 0, 0, 0, 0, 0);
        Document.sentence("`what`: 0 its base portions, 1 its steps, 2 its portions in the menu, 3 to 10 its amounts of the "
            + "ingredients 0 to 7");
        TinKitchen kitchen = Kitchens.recipes("1", "20a1b2c3d4e5f6g7h500" + ";1/0".repeat(8));
        kitchen.menu(1, 20);
        answers("the least: ofRecipe(0, #)", what -> kitchen.ofRecipe(0, what), 1, 0, 0, 0, 0, 0, 0, 0, 0, 0, 0);
        answers("the most: ofRecipe(1, #)", what -> kitchen.ofRecipe(1, what), 20, 8, 20, 1, 2, 3, 4, 5, 6, 7, 500);
        Document.sentence("Returns the number");
        kitchen.amount(0, 7, 500);
        Check.due("an amount that was not named: ofRecipe(0, 10)", 500, kitchen.ofRecipe(0, 10));
        kitchen.amount(1, 0, 0);
        Check.due("an amount of 0: ofRecipe(1, 3)", 0, kitchen.ofRecipe(1, 3));
        Check.due("of an ingredient that there is not: ofRecipe(0, 10)", 0, filled.ofRecipe(0, 10));
        Document.sentence("NO_SUCH if there is no such recipe");
        Check.outside(Kitchens::filled, "ofRecipe(#, 0)", NO_SUCH, 0, 0, (k, of) -> k.ofRecipe(of, 0));
        Check.outside(() -> Kitchens.recipes("1", "1", "1", "1"), "4 there: ofRecipe(#, 10)", NO_SUCH, 0, 3,
            (k, of) -> k.ofRecipe(of, 10));
        Check.refused(Kitchens::filled, "ahead of BAD_VALUE: ofRecipe(#, 11)", NO_SUCH, (k, of) -> k.ofRecipe(of, 11), -1, 1);
        whats(Kitchens::filled, "ofRecipe(0, #)", 10, (k, what) -> k.ofRecipe(0, what));
        Check.refused(Kitchens::filled, "the least numbers: ofRecipe(0, #)", BAD_VALUE, (k, what) -> k.ofRecipe(0, what),
            Integer.MIN_VALUE + 1, Integer.MIN_VALUE + 2, Integer.MIN_VALUE + 3, Integer.MIN_VALUE + 10);
    }

    private static void count() {
        Document.section("Promise 18");
        Document.sentence("Returns a number about the kitchen");
        TinKitchen filled = Kitchens.filled();
        answers("count(#)", filled::count, 1, 2, 1, 2, 120, 50, 0, 1, 45, 45, 70, 99, 1, 2, 5);
        Document.sentence("`what`: 0 the day, 1 ingredients, 2 recipes, 3 the hands");
        TinKitchen kitchen = new TinKitchen();
        answers("of a new one: count(#)", kitchen::count, 0, 0, 0, 2, 0, 0, 0, 0, 0, 0, 0, 0, 0, 0, 0);
        TinKitchen full = Kitchens.recipes("1", "1", "1", "1");
        full.hands(6);
        Check.write(full, "1".repeat(80));
        answers("full: count(#)", full::count, 0, 8, 4, 6, 0, 0, 0, 0, 0, 0, 0, 0, 0, 80, 6);
        Check.due("the last day: count(0)", 3000, Kitchens.onDay(3000).count(0));
    }

    private static void countMenu() {
        Document.sentence("4 the price of all tins for the menu (also if something is missing), 5 what is left over of them");
        TinKitchen kitchen = Kitchens.menu("1a120h7;5/1");
        kitchen.tin(0, 50, 7);
        answers("h is missing: count(#)", what -> kitchen.count(4 + what), 21, 30, 128, 0);
        kitchen.stock(7, 7);
        answers("nothing is missing: count(#)", what -> kitchen.count(4 + what), 21, 30, 0, 1);
        kitchen.buyable(0, 0);
        answers("a is missing: count(#)", what -> kitchen.count(4 + what), 0, 0, 1, 0);
        kitchen.menu(0, 0);
        answers("no portions: count(#)", what -> kitchen.count(4 + what), 0, 0, 0, 0);
        Document.sentence("8 when all steps have ended (0 without steps; NONE if the menu has no end), 9 the bound");
        TinKitchen steps = Kitchens.menu("1;10/3;7/1@0", "1");
        answers("no end: count(#)", what -> steps.count(8 + what), NONE, 19, 37);
        steps.hands(3);
        answers("an end: count(#)", what -> steps.count(8 + what), 17, 17, 37);
        steps.menu(0, 0);
        answers("without steps: count(#)", what -> steps.count(8 + what), 0, 0, 0);
        Document.sentence("11 all cents that were spent, 12 all menus that were cooked, 13 the length of the pad");
        TinKitchen spent = Kitchens.menu("1a50");
        spent.tin(0, 50, 999);
        answers("nothing is cooked: count(#)", what -> spent.count(11 + what), 0, 0, 0);
        spent.cook();
        spent.menu(0, 3);
        spent.put('x');
        answers("cooked once: count(#)", what -> spent.count(11 + what), 999, 1, 1);
        spent.cook();
        answers("cooked twice: count(#)", what -> spent.count(11 + what), 999 * 4, 2, 1);
    }

    private static void countChanges() {
        Document.sentence("14 how many changes can be undone");
        TinKitchen kitchen = new TinKitchen();
        for (int changes = 1; changes <= 8; changes++) {
            kitchen.hands(1 + changes % 6);
            Check.due(changes + " changes: count(14)", Math.min(changes, 6), kitchen.count(14));
        }
        Document.sentence("Returns the number");
        whats(Kitchens::filled, "count(#)", 14, TinKitchen::count);
    }
}
