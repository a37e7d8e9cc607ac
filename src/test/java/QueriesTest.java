/** Promises 13 to 18: about, ofTin, needs, step, ofRecipe, count. */
public final class QueriesTest {
    private static final int NO_SUCH = TinKitchen.NO_SUCH;
    private static final int NONE = TinKitchen.NONE;

    public static void main(String[] arguments) {
        aboutAnswers();
        ofTinAnswers();
        needsAreScaledAndRoundedUp();
        needsAreReplaced();
        replacingIsBounded();
        tinsAreCheapest();
        tiesOfTins();
        stepAnswers();
        stepsTakeTurns();
        stepsThatNeverBegin();
        stepsAreThoseOfTheText();
        ofRecipeAnswers();
        countAnswers();
        Check.end("QueriesTest");
    }

    private static TinKitchen filled() {
        TinKitchen kitchen = new TinKitchen();
        kitchen.ingredient(3);
        kitchen.ingredient(5);
        kitchen.tin(0, 100, 40);
        kitchen.tin(0, 250, 90);
        kitchen.tin(1, 500, 99);
        kitchen.substitute(0, 1, 50);
        Check.recipe(kitchen, "4a200b30;10/1;20/2*@0;5/0@0@1");
        kitchen.menu(0, 6);
        kitchen.stock(0, 120);
        kitchen.pass(1);
        kitchen.stock(0, 30);
        kitchen.put(Check.number("7x"));
        return kitchen;
    }

    private static void aboutAnswers() {
        TinKitchen kitchen = filled();
        int[] before = {3, 1, 2, 1, 50, 150, 2, 3, 0, 0, 0, 150};
        for (int what = 0; what < 12; what++) {
            Check.due("about(0, " + what + ")", before[what], kitchen.about(0, what));
        }
        kitchen.cook();
        kitchen.stock(0, 7);
        kitchen.pass(60);
        int[] behind = {3, 1, 2, 1, 50, 0, 0, NONE, 200, 300, 57, 157};
        for (int what = 0; what < 12; what++) {
            Check.due("cooked, passed: about(0, " + what + ")", behind[what], kitchen.about(0, what));
        }
    }

    private static void ofTinAnswers() {
        TinKitchen kitchen = filled();
        Check.due("ofTin(0, 1, 0)", 250, kitchen.ofTin(0, 1, 0));
        Check.due("ofTin(0, 1, 1)", 90, kitchen.ofTin(0, 1, 1));
        Check.due("ofTin(0, 0, 2)", 2, kitchen.ofTin(0, 0, 2));
        Check.due("ofTin(0, 1, 2)", 0, kitchen.ofTin(0, 1, 2));
        Check.due("ofTin(1, 0, 2)", 1, kitchen.ofTin(1, 0, 2));
        kitchen.menu(0, 0);
        Check.due("ofTin(1, 0, 2)", 0, kitchen.ofTin(1, 0, 2));
    }

    private static void needs(String of, TinKitchen kitchen, int ingredient, int... numbers) {
        for (int what = 0; what < 8; what++) {
            Check.due(of + ": needs(" + ingredient + ", " + what + ")", numbers[what], kitchen.needs(ingredient, what));
        }
    }

    private static void needsAreScaledAndRoundedUp() {
        TinKitchen kitchen = filled();
        needs("filled", kitchen, 0, 300, 0, 150, 200, 50, 0, 0, 80);
        needs("filled", kitchen, 1, 45, 0, 0, 500, 455, 0, 0, 99);
        Check.recipe(kitchen, "7a10b1");
        kitchen.menu(1, 5);
        kitchen.menu(0, 1);
        needs("each recipe rounded up", kitchen, 0, 50 + 8, 0, 58, 0, 0, 0, 0, 0);
        needs("each recipe rounded up", kitchen, 1, 8 + 1, 0, 0, 500, 491, 0, 0, 99);
    }

    private static void needsAreReplaced() {
        TinKitchen kitchen = filled();
        kitchen.buyable(0, 0);
        needs("replaced", kitchen, 0, 300, 0, 150, 0, 0, 150, 0, 0);
        needs("replaced", kitchen, 1, 45 + 75, 75, 0, 500, 380, 0, 0, 99);
        kitchen.stock(0, 149);
        needs("one gram replaced", kitchen, 0, 300, 0, 299, 0, 0, 1, 0, 0);
        needs("one gram replaced", kitchen, 1, 46, 1, 0, 500, 454, 0, 0, 99);
        kitchen.buyable(1, 0);
        needs("the substitute is missing", kitchen, 0, 300, 0, 299, 0, 0, 1, 0, 0);
        needs("the substitute is missing", kitchen, 1, 46, 1, 0, 0, 0, 0, 46, 0);
        kitchen.stock(1, 6);
        needs("partly missing", kitchen, 1, 46, 1, 6, 0, 0, 0, 40, 0);
        kitchen.substitute(0, NONE, 0);
        needs("no substitute", kitchen, 0, 300, 0, 299, 0, 0, 0, 1, 0);
        TinKitchen noTins = new TinKitchen();
        noTins.ingredient(1);
        Check.recipe(noTins, "1a3");
        noTins.menu(0, 1);
        needs("no tins", noTins, 0, 3, 0, 0, 0, 0, 0, 3, 0);
    }

    /** 0 needs 20000 or a bit less by two recipes; 1 needs as much, and what is doubled of 0. */
    private static TinKitchen muchNeeded() {
        TinKitchen kitchen = new TinKitchen();
        kitchen.ingredient(1);
        kitchen.ingredient(1);
        kitchen.ingredient(1);
        kitchen.substitute(0, 2, 200);
        kitchen.substitute(1, 2, 200);
        kitchen.tin(2, 2000, 999);
        for (int recipe = 0; recipe < 4; recipe++) {
            Check.recipe(kitchen, "1a500b500");
        }
        for (int recipe = 0; recipe < 4; recipe++) {
            kitchen.menu(recipe, recipe < 2 ? 20 : 5);
        }
        return kitchen;
    }

    private static void replacingIsBounded() {
        TinKitchen kitchen = muchNeeded();
        needs("100000", kitchen, 0, 25000, 0, 0, 0, 0, 25000, 0, 0);
        needs("100000", kitchen, 1, 25000, 0, 0, 0, 0, 25000, 0, 0);
        needs("100000", kitchen, 2, 100000, 100000, 0, 100000, 0, 0, 0, 49950);
        kitchen.amount(3, 2, 1);
        needs("100005", kitchen, 0, 25000, 0, 0, 0, 0, 25000, 0, 0);
        needs("100005", kitchen, 1, 25000, 0, 0, 0, 0, 0, 25000, 0);
        needs("100005", kitchen, 2, 50005, 50000, 0, 52000, 1995, 0, 0, 25974);
        kitchen.stock(2, 20000);
        needs("the pantry does not matter", kitchen, 1, 25000, 0, 0, 0, 0, 0, 25000, 0);
        kitchen.amount(3, 2, 0);
        kitchen.amount(3, 0, 499);
        needs("99990", kitchen, 2, 99990, 99990, 20000, 80000, 10, 0, 0, 39960);
    }

    /** A kitchen that needs so much of an ingredient with these tins: size, price, size, price, .. */
    private static TinKitchen needing(int grams, int... tins) {
        TinKitchen kitchen = new TinKitchen();
        kitchen.ingredient(1);
        for (int at = 0; at < tins.length; at += 2) {
            kitchen.tin(0, tins[at], tins[at + 1]);
        }
        Check.recipe(kitchen, "1a1");
        boolean isMuch = grams > 500;
        kitchen.amount(0, 0, isMuch ? grams / 20 : grams);
        kitchen.menu(0, isMuch ? 20 : 1);
        Check.due("needed", grams, kitchen.needs(0, 0));
        return kitchen;
    }

    private static void bought(TinKitchen kitchen, int price, int weight, int... tins) {
        Check.due("price", price, kitchen.needs(0, 7));
        Check.due("weight", weight, kitchen.needs(0, 3));
        Check.due("left over", weight - kitchen.needs(0, 0), kitchen.needs(0, 4));
        for (int kind = 0; kind < tins.length; kind++) {
            Check.due("tins of kind " + kind, tins[kind], kitchen.ofTin(0, kind, 2));
        }
    }

    private static void tinsAreCheapest() {
        bought(needing(1, 50, 7), 7, 50, 1);
        bought(needing(50, 50, 7), 7, 50, 1);
        bought(needing(51, 50, 7), 14, 100, 2);
        bought(needing(300, 100, 40, 250, 90, 400, 110), 110, 400, 0, 0, 1);
        bought(needing(600, 100, 40, 250, 90, 400, 150), 220, 600, 1, 2, 0);
        bought(needing(800, 100, 40, 250, 90, 400, 143), 286, 800, 0, 0, 2);
        bought(needing(499, 499, 999, 500, 998), 998, 500, 0, 1);
        bought(needing(10000, 1999, 999, 53, 26), 26 * 189, 10017, 0, 189);
    }

    private static void tiesOfTins() {
        // the same price: the least weight
        bought(needing(100, 150, 10, 120, 10, 130, 10), 10, 120, 0, 1, 0);
        // the same price and weight: the fewest tins
        bought(needing(200, 50, 5, 100, 10, 200, 20), 20, 200, 0, 0, 1);
        bought(needing(200, 200, 20, 100, 10, 50, 5), 20, 200, 1, 0, 0);
        // as many tins: the fewest of kind 0, then of kind 1
        bought(needing(300, 100, 10, 150, 15, 200, 20), 30, 300, 0, 2, 0);
        bought(needing(300, 150, 15, 100, 10, 200, 20), 30, 300, 0, 1, 1);
        bought(needing(300, 200, 20, 100, 10, 150, 15), 30, 300, 0, 0, 2);
        bought(needing(300, 100, 10, 200, 20, 150, 15), 30, 300, 0, 0, 2);
        bought(needing(350, 50, 5, 150, 15, 250, 25), 35, 350, 1, 2, 0);
        bought(needing(350, 100, 10, 150, 15, 50, 5), 35, 350, 0, 2, 1);
        bought(needing(600, 150, 15, 50, 5, 250, 25), 60, 600, 0, 2, 2);
        bought(needing(500, 150, 15, 100, 10, 50, 5), 50, 500, 2, 2, 0);
        // fewer tins that are heavier do not count
        bought(needing(110, 55, 5, 120, 10), 10, 110, 2, 0);
    }

    private static void stepAnswers() {
        TinKitchen kitchen = filled();
        int[][] six = {{10, 1, 0, 0, 45, 0}, {30, 2, 1, 1, 35, 10}, {5, 0, 3, 0, 5, 40}};
        int[][] none = {{10, 1, 0, 0, NONE, NONE}, {20, 2, 1, 1, NONE, NONE}, {5, 0, 3, 0, NONE, NONE}};
        steps(kitchen, six);
        kitchen.menu(0, 0);
        steps(kitchen, none);
        kitchen.menu(0, 1);
        Check.due("20 / 4", 5, kitchen.step(0, 1, 0));
        kitchen.menu(0, 13);
        Check.due("20 * 13 / 4", 65, kitchen.step(0, 1, 0));
        Check.recipe(kitchen, "7;10/1*");
        kitchen.menu(1, 5);
        Check.due("10 * 5 / 7, rounded up", 8, kitchen.step(1, 0, 0));
    }

    private static void steps(TinKitchen kitchen, int[][] numbers) {
        for (int step = 0; step < numbers.length; step++) {
            for (int what = 0; what < 6; what++) {
                Check.due("step(0, " + step + ", " + what + ")", numbers[step][what], kitchen.step(0, step, what));
            }
        }
    }

    private static void begins(String of, TinKitchen kitchen, int recipe, int... times) {
        for (int step = 0; step < times.length; step++) {
            Check.due(of + ": step(" + recipe + ", " + step + ", 5)", times[step], kitchen.step(recipe, step, 5));
        }
    }

    private static void stepsTakeTurns() {
        TinKitchen kitchen = new TinKitchen();
        Check.recipe(kitchen, "1;10/1;30/1;5/2;20/0");
        kitchen.menu(0, 1);
        begins("longest first", kitchen, 0, 0, 0, 30, 0);
        Check.due("end", 35, kitchen.count(8));
        Check.due("bound", 30, kitchen.count(9));
        kitchen.hands(1);
        begins("one hand", kitchen, 0, 30, 0, NONE, 0);
        kitchen.hands(2);
        Check.recipe(kitchen, "1;30/2;10/1;10/1@1");
        kitchen.menu(1, 1);
        // tails: 10 30 5 20 of recipe 0, 30 20 10 of recipe 1
        begins("two recipes", kitchen, 0, 10, 0, 60, 0);
        begins("two recipes", kitchen, 1, 30, 0, 20);
        kitchen.hands(3);
        begins("lower recipes first", kitchen, 0, 30, 0, 40, 0);
        begins("lower recipes first", kitchen, 1, 0, 30, 40);
        kitchen.menu(1, 0);
        begins("recipes without portions do nothing", kitchen, 0, 0, 0, 10, 0);
        TinKitchen equal = new TinKitchen();
        Check.recipe(equal, "1;10/2;10/2;5/1;5/1@2");
        equal.menu(0, 1);
        begins("lower steps first", equal, 0, 0, 10, 20, 25);
        Check.due("work", 10 * 2 + 10 * 2 + 5 + 5, equal.count(10));
        Check.due("bound", 25, equal.count(9));
        equal.hands(3);
        begins("what fits is not held back", equal, 0, 0, 10, 0, 5);
        Check.due("bound, rounded up", 17, equal.count(9));
    }

    private static void stepsThatNeverBegin() {
        TinKitchen kitchen = new TinKitchen();
        Check.recipe(kitchen, "1;10/3;20/1@0;7/1;5/1@2");
        kitchen.menu(0, 1);
        begins("two hands", kitchen, 0, NONE, NONE, 0, 7);
        Check.due("no end", NONE, kitchen.count(8));
        Check.due("tail", 30, kitchen.step(0, 0, 4));
        Check.due("bound", 31, kitchen.count(9));
        Check.due("work", 62, kitchen.count(10));
        kitchen.hands(3);
        begins("three hands", kitchen, 0, 0, 10, 10, 17);
        Check.due("end", 30, kitchen.count(8));
        kitchen.menu(0, 0);
        kitchen.hands(1);
        Check.due("no portions: end", 0, kitchen.count(8));
        Check.due("no portions: bound", 0, kitchen.count(9));
        Check.due("no portions: work", 0, kitchen.count(10));
    }

    /** What a longer text left behind does not belong to the steps of a shorter one. */
    private static void stepsAreThoseOfTheText() {
        TinKitchen kitchen = new TinKitchen();
        Check.recipe(kitchen, "1;9/1;9/1;200/1@0@1;100/1@0@2");
        Check.recipe(kitchen, "1;9/1;9/1;9/1@0;9/1@0x");
        Check.due("recipe", 1, Check.recipe(kitchen, "1;7/1;5/1"));
        kitchen.menu(1, 1);
        Check.due("tail", 7, kitchen.step(1, 0, 4));
        Check.due("no third step", NO_SUCH, kitchen.step(1, 2, 0));
        Check.due("end", 7, kitchen.count(8));
        Check.due("bound", 7, kitchen.count(9));
        Check.due("work", 12, kitchen.count(10));
    }

    private static void ofRecipeAnswers() {
        TinKitchen kitchen = filled();
        int[] numbers = {4, 3, 6, 200, 30, 0, 0, 0, 0, 0, 0};
        for (int what = 0; what < 11; what++) {
            Check.due("ofRecipe(0, " + what + ")", numbers[what], kitchen.ofRecipe(0, what));
        }
        TinKitchen all = new TinKitchen();
        for (int ingredient = 0; ingredient < 8; ingredient++) {
            all.ingredient(1);
        }
        Check.recipe(all, "1h8g7f6e5d4c3b2a1");
        for (int ingredient = 0; ingredient < 8; ingredient++) {
            Check.due("amount of " + ingredient, ingredient + 1, all.ofRecipe(0, 3 + ingredient));
        }
    }

    private static void countAnswers() {
        TinKitchen kitchen = filled();
        counts("filled", kitchen, 1, 2, 1, 2, 179, 505, 0, 1, 45, 45, 70, 0, 0, 2, 6);
        kitchen.buyable(1, 0);
        counts("missing", kitchen, 1, 2, 1, 2, 80, 50, 2, 0, 45, 45, 70, 0, 0, 2, 6);
        kitchen.buyable(0, 0);
        kitchen.substitute(0, NONE, 0);
        counts("both missing", kitchen, 1, 2, 1, 2, 0, 0, 3, 0, 45, 45, 70, 0, 0, 2, 6);
        kitchen.stock(0, 1000);
        kitchen.stock(1, 1000);
        kitchen.hands(1);
        counts("one hand", kitchen, 1, 2, 1, 1, 0, 0, 0, 1, NONE, 70, 70, 0, 0, 2, 6);
        kitchen.cook();
        counts("cooked", kitchen, 1, 2, 1, 1, 0, 0, 0, 0, 0, 0, 0, 0, 1, 2, 6);
    }

    private static void counts(String of, TinKitchen kitchen, int... numbers) {
        for (int what = 0; what < 15; what++) {
            Check.due(of + ": count(" + what + ")", numbers[what], kitchen.count(what));
        }
    }
}
