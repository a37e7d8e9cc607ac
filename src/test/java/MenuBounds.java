import java.util.Arrays;

/** The bounds of buying and cooking. */
final class MenuBounds {
    private static final int NOT_POSSIBLE = TinKitchen.NOT_POSSIBLE;
    private static final int NONE = TinKitchen.NONE;

    private MenuBounds() {
    }

    static void run() {
        ascending();
        sums();
        pantry();
        tins();
        ties();
        replaced();
        replacedUpToTheMost();
        missing();
        canBeCooked();
        accounts();
        lotsInTheirOrder();
        leftOver();
        emptied();
        daysPass();
    }

    private static void needs(String of, TinKitchen kitchen, int ingredient, int... due) {
        for (int what = 0; what < due.length; what++) {
            Check.due(of + ": needs(" + ingredient + ", " + what + ")", due[what], kitchen.needs(ingredient, what));
        }
    }

    private static void ascending() {
        Document.section("Buying");
        Document.sentence("For a menu, ingredients are looked at in ascending order");
        TinKitchen chain = Kitchens.menu("1a100b10");
        for (int ingredient = 0; ingredient < 7; ingredient++) {
            chain.substitute(ingredient, ingredient + 1, 200);
        }
        chain.tin(7, 2000, 1);
        needs("a", chain, 0, 100, 0, 0, 0, 0, 100, 0, 0);
        needs("b", chain, 1, 210, 200, 0, 0, 0, 210, 0, 0);
        needs("c", chain, 2, 420, 420, 0, 0, 0, 420, 0, 0);
        needs("h", chain, 7, 210 * 64, 210 * 64, 0, 14000, 560, 0, 0, 7);
        TinKitchen two = claimed(1);
        Check.due("the first one is replaced: needs(0, 5)", 25000, two.needs(0, 5));
        Check.due("the second one is missing: needs(1, 6)", 25000, two.needs(1, 6));
    }

    /** 25000 grams of a and of b are to be replaced by 50000 of c each, and some of c is needed besides. */
    private static TinKitchen claimed(int besides) {
        return claimed(besides, 2000);
    }

    private static TinKitchen claimed(int besides, int size) {
        TinKitchen kitchen = Kitchens.recipes("1a500b500", "1a500b500", "1a500b500", "1c1");
        kitchen.substitute(0, 2, 200);
        kitchen.substitute(1, 2, 200);
        kitchen.tin(2, size, 1);
        int[] portions = {20, 20, 10, besides};
        for (int recipe = 0; recipe < 4; recipe++) {
            kitchen.menu(recipe, portions[recipe]);
        }
        return kitchen;
    }

    private static void sums() {
        Document.sentence("What is needed of one is the sum of what all recipes need of it, and of what replaces earlier ones");
        TinKitchen kitchen = Kitchens.menu("3b1", "3b1", "3b1", "3b1");
        needs("each one rounded up", kitchen, 1, 4, 0);
        kitchen.menu(3, 0);
        needs("without the last one", kitchen, 1, 3, 0);
        kitchen.menu(0, 0);
        kitchen.menu(1, 0);
        kitchen.menu(2, 0);
        needs("without any", kitchen, 1, 0, 0);
        kitchen.amount(0, 0, 9);
        kitchen.menu(0, 1);
        kitchen.substitute(0, 1, 50);
        needs("with what replaces 3 grams", kitchen, 1, 1 + 2, 2);
        String all = "1a500b500c500d500e500f500g500h500";
        TinKitchen most = Kitchens.recipes(all, all, all, all);
        for (int recipe = 0; recipe < 4; recipe++) {
            most.menu(recipe, 20);
        }
        needs("the most of recipes", most, 0, 40000, 0);
        needs("the most of recipes", most, 7, 40000, 0);
    }

    private static void pantry() {
        Document.sentence("As much as there is is taken from the pantry");
        int[] thereAndTaken = {1, 1, 99, 99, 100, 100, 101, 100, 20000, 100};
        for (int at = 0; at < thereAndTaken.length; at += 2) {
            TinKitchen kitchen = Kitchens.needing(100);
            kitchen.stock(0, thereAndTaken[at]);
            int left = 100 - thereAndTaken[at + 1];
            needs(thereAndTaken[at] + " there", kitchen, 0, 100, 0, thereAndTaken[at + 1], 0, 0, 0, left, 0);
        }
        needs("nothing there", Kitchens.needing(100), 0, 100, 0, 0, 0, 0, 0, 100, 0);
        TinKitchen lots = Kitchens.needing(100);
        for (int day = 0; day < 4; day++) {
            lots.stock(0, 20);
            lots.pass(1);
        }
        needs("several lots there", lots, 0, 100, 0, 80, 0, 0, 0, 20, 0);
        Document.sentence("If some is left that is needed");
        TinKitchen some = Kitchens.needing(100);
        some.tin(0, 50, 7);
        some.stock(0, 99);
        needs("a gram is left", some, 0, 100, 0, 99, 50, 49, 0, 0, 7);
        some.stock(0, 1);
        needs("nothing is left", some, 0, 100, 0, 100, 0, 0, 0, 0, 0);
        needs("nothing is needed", Kitchens.needing(0), 0, 0, 0, 0, 0, 0, 0, 0, 0);
    }

    /** So much is needed of an ingredient with these tins: size, price, size, price, .. */
    private static TinKitchen needing(int grams, int... tins) {
        TinKitchen kitchen = Kitchens.needing(grams);
        for (int at = 0; at < tins.length; at += 2) {
            kitchen.tin(0, tins[at], tins[at + 1]);
        }
        return kitchen;
    }

    private static void bought(TinKitchen kitchen, int price, int weight, int... tins) {
        Check.due("price: needs(0, 7)", price, kitchen.needs(0, 7));
        Check.due("weight: needs(0, 3)", weight, kitchen.needs(0, 3));
        Check.due("left over: needs(0, 4)", weight - kitchen.needs(0, 0), kitchen.needs(0, 4));
        for (int kind = 0; kind < tins.length; kind++) {
            Check.due("tins: ofTin(0, " + kind + ", 2)", tins[kind], kitchen.ofTin(0, kind, 2));
        }
    }

    private static void tins() {
        Document.sentence("If it can be bought and has a kind of tins, tins are bought that together have at least that weight: "
            + "so that the price is least");
        bought(needing(1, 100, 7), 7, 100, 1);
        bought(needing(99, 100, 7), 7, 100, 1);
        bought(needing(100, 100, 7), 7, 100, 1);
        bought(needing(101, 100, 7), 14, 200, 2);
        bought(needing(500, 50, 999), 9990, 500, 10);
        bought(needing(500, 2000, 1), 1, 2000, 1);
        // a heavier one that is cheaper, and one that is a cent dearer
        bought(needing(60, 60, 10, 2000, 9), 9, 2000, 0, 1);
        bought(needing(60, 60, 10, 2000, 11), 10, 60, 1, 0);
        bought(needing(100, 100, 50, 60, 24), 48, 120, 0, 2);
        bought(needing(100, 100, 50, 60, 26), 50, 100, 1, 0);
        bought(needing(300, 100, 40, 250, 90, 400, 119), 119, 400, 0, 0, 1);
        bought(needing(300, 100, 40, 250, 90, 400, 121), 120, 300, 3, 0, 0);
        bought(needing(450, 100, 40, 250, 90, 150, 61), 170, 450, 2, 1, 0);
        bought(needing(450, 100, 40, 250, 90, 150, 56), 168, 450, 0, 0, 3);
        bought(needing(451, 100, 40, 250, 90, 150, 61), 180, 500, 0, 2, 0);
    }

    private static void ties() {
        Document.sentence("of several ways the one with the least weight, then with the fewest tins, then with the fewest tins of its "
            + "kind 0, then of its kind 1");
        // the least weight
        bought(needing(100, 150, 10, 120, 10, 130, 10), 10, 120, 0, 1, 0);
        bought(needing(100, 120, 10, 121, 10), 10, 120, 1, 0);
        bought(needing(100, 121, 10, 120, 10), 10, 120, 0, 1);
        bought(needing(110, 55, 5, 120, 10), 10, 110, 2, 0);
        bought(needing(110, 120, 10, 55, 5), 10, 110, 0, 2);
        // the fewest tins
        bought(needing(200, 50, 5, 100, 10, 200, 20), 20, 200, 0, 0, 1);
        bought(needing(200, 200, 20, 100, 10, 50, 5), 20, 200, 1, 0, 0);
        bought(needing(200, 100, 10, 200, 20, 50, 5), 20, 200, 0, 1, 0);
        bought(needing(250, 50, 5, 100, 10, 150, 15), 25, 250, 0, 1, 1);
        // the fewest tins of kind 0
        bought(needing(300, 100, 10, 150, 15, 200, 20), 30, 300, 0, 2, 0);
        bought(needing(300, 150, 15, 100, 10, 200, 20), 30, 300, 0, 1, 1);
        bought(needing(300, 200, 20, 100, 10, 150, 15), 30, 300, 0, 0, 2);
        bought(needing(500, 150, 15, 50, 5, 250, 25), 50, 500, 0, 0, 2);
        bought(needing(350, 50, 5, 150, 15, 250, 25), 35, 350, 1, 2, 0);
        bought(needing(350, 100, 10, 150, 15, 50, 5), 35, 350, 0, 2, 1);
        everyWay(50, 5, 100, 10, 150, 15);
        everyWay(150, 15, 100, 10, 50, 5);
        everyWay(100, 20, 250, 50, 150, 30);
        everyWay(60, 6, 50, 5, 110, 11);
        everyWay(70, 7, 110, 11, 90, 9);
        everyWay(100, 500, 50, 260, 70, 351);
        everyWay(120, 12, 70, 8, 50, 5);
        everyWay(90, 10, 80, 9, 70, 8);
    }

    /** All ways to buy up to ten tins of each of three kinds are looked at, for 1 to 500 grams. */
    private static void everyWay(int... tins) {
        for (int grams = 1; grams <= 500; grams += 7) {
            int[] best = null;
            for (int way = 0; way < 11 * 11 * 11; way++) {
                int first = way / 121;
                int second = way / 11 % 11;
                int third = way % 11;
                int weight = first * tins[0] + second * tins[2] + third * tins[4];
                int price = first * tins[1] + second * tins[3] + third * tins[5];
                int[] row = {price, weight, first + second + third, first, second, third};
                if (weight >= grams && (best == null || Arrays.compare(row, best) < 0)) {
                    best = row;
                }
            }
            bought(needing(grams, tins), best[0], best[1], best[3], best[4], best[5]);
        }
    }

    private static void replaced() {
        Document.sentence("what is needed of the other ingredient increases by left * rate / 100, rounded up (it may be replaced itself "
            + "in its turn)");
        int[][] leftRatesGrams = {{1, 10, 1}, {10, 10, 1}, {11, 10, 2}, {100, 10, 10}, {3, 33, 1}, {4, 25, 1}, {5, 25, 2},
            {1, 100, 1}, {500, 100, 500}, {7, 150, 11}, {8, 150, 12}, {1, 200, 2}, {500, 200, 1000}, {99, 101, 100}, {100, 101, 101}};
        for (int[] row : leftRatesGrams) {
            TinKitchen kitchen = Kitchens.menu("1a" + row[0]);
            kitchen.substitute(0, 1, row[1]);
            needs(row[0] + " grams at " + row[1], kitchen, 0, row[0], 0, 0, 0, 0, row[0], 0, 0);
            needs(row[0] + " grams at " + row[1], kitchen, 1, row[2], row[2], 0, 0, 0, 0, row[2], 0);
        }
        TinKitchen turn = Kitchens.menu("1a100");
        turn.substitute(0, 1, 50);
        turn.substitute(1, 2, 50);
        turn.stock(0, 1);
        turn.stock(1, 49);
        needs("99 are left", turn, 0, 100, 0, 1, 0, 0, 99, 0, 0);
        needs("1 of 50 is left", turn, 1, 50, 50, 49, 0, 0, 1, 0, 0);
        needs("1 is missing", turn, 2, 1, 1, 0, 0, 0, 0, 1, 0);
        turn.stock(1, 1);
        needs("0 of 50 are left", turn, 1, 50, 50, 50, 0, 0, 0, 0, 0);
        needs("nothing is replaced in its turn", turn, 2, 0, 0, 0, 0, 0, 0, 0, 0);
        turn.stock(0, 99);
        needs("nothing is replaced", turn, 1, 0, 0, 0, 0, 0, 0, 0, 0);
        TinKitchen bought = Kitchens.menu("1a100");
        bought.substitute(0, 1, 50);
        bought.tin(0, 50, 999);
        needs("it can be bought", bought, 0, 100, 0, 0, 100, 0, 0, 0, 1998);
        bought.buyable(0, 0);
        needs("it cannot be bought", bought, 0, 100, 0, 0, 0, 0, 100, 0, 0);
    }

    private static void replacedUpToTheMost() {
        Document.sentence("Otherwise, if it has a substitute, and there would be needed at most 100000 grams of that then, all of what "
            + "is left is replaced");
        TinKitchen most = claimed(0);
        needs("100000", most, 1, 25000, 0, 0, 0, 0, 25000, 0, 0);
        needs("100000", most, 2, 100000, 100000, 0, 100000, 0, 0, 0, 50);
        Check.due("100000: count(7)", 1, most.count(7));
        most.buyable(2, 0);
        needs("100000 are missing", most, 2, 100000, 100000, 0, 0, 0, 0, 100000, 0);
        TinKitchen more = claimed(1);
        needs("100001", more, 0, 25000, 0, 0, 0, 0, 25000, 0, 0);
        needs("100001", more, 1, 25000, 0, 0, 0, 0, 0, 25000, 0);
        needs("100001", more, 2, 50001, 50000, 0, 52000, 1999, 0, 0, 26);
        Check.due("100001: count(6)", 2, more.count(6));
        Check.due("100001: count(7)", 0, more.count(7));
        Check.due("100001: cook()", NOT_POSSIBLE, more.cook());
        more.stock(2, 20000);
        needs("the pantry of the other one does not matter", more, 1, 25000, 0, 0, 0, 0, 0, 25000, 0);
        more.stock(1, 1);
        needs("99999, all but a gram", more, 1, 25000, 0, 1, 0, 0, 24999, 0, 0);
        needs("99999, all but a gram", more, 2, 99999, 99998, 20000, 80000, 1, 0, 0, 40);
        Check.due("100000, in the smallest tins: ofTin(2, 0, 2)", 2000, claimed(0, 50).ofTin(2, 0, 2));
        Check.due("50001, in the smallest tins: ofTin(2, 0, 2)", 1001, claimed(1, 50).ofTin(2, 0, 2));
    }

    private static void missing() {
        Document.sentence("Otherwise it is missing");
        TinKitchen kitchen = Kitchens.needing(100);
        needs("no tins, no substitute", kitchen, 0, 100, 0, 0, 0, 0, 0, 100, 0);
        kitchen.stock(0, 99);
        needs("all but a gram is there", kitchen, 0, 100, 0, 99, 0, 0, 0, 1, 0);
        kitchen.tin(0, 50, 5);
        needs("it can be bought", kitchen, 0, 100, 0, 99, 50, 49, 0, 0, 5);
        kitchen.buyable(0, 0);
        needs("it cannot be bought", kitchen, 0, 100, 0, 99, 0, 0, 0, 1, 0);
        kitchen.ingredient(1);
        kitchen.substitute(0, 1, 100);
        needs("it is replaced", kitchen, 0, 100, 0, 99, 0, 0, 1, 0, 0);
        needs("the other one is missing", kitchen, 1, 1, 1, 0, 0, 0, 0, 1, 0);
        Check.due("the other one is missing: count(6)", 2, kitchen.count(6));
    }

    private static void canBeCooked() {
        Document.section("Cooking");
        Document.sentence("A menu can be cooked if nothing is missing and some recipe has portions");
        TinKitchen kitchen = Kitchens.recipes("1", "1", "1", "1h1");
        Check.due("no portions: count(7)", 0, kitchen.count(7));
        Check.due("no portions: cook()", NOT_POSSIBLE, kitchen.cook());
        kitchen.menu(3, 1);
        Check.due("a gram is missing: count(7)", 0, kitchen.count(7));
        Check.due("a gram is missing: cook()", NOT_POSSIBLE, kitchen.cook());
        kitchen.stock(7, 1);
        Check.due("nothing is missing: count(7)", 1, kitchen.count(7));
        Check.due("nothing is missing: cook()", 0, kitchen.cook());
        Check.due("cooked: count(7)", 0, kitchen.count(7));
        Check.due("cooked: cook()", NOT_POSSIBLE, kitchen.cook());
        for (int recipe = 0; recipe < 3; recipe++) {
            kitchen.menu(recipe, 1);
            Check.due("one recipe, nothing is needed: cook()", 0, kitchen.cook());
        }
        Check.due("count(12)", 4, kitchen.count(12));
        TinKitchen endless = Kitchens.menu("1;5/3");
        Check.due("it has no end: count(8)", NONE, endless.count(8));
        Check.due("but can be cooked: count(7)", 1, endless.count(7));
        Check.due("but can be cooked: cook()", 0, endless.cook());
    }

    private static void accounts() {
        Document.sentence("Then tins are bought as told");
        TinKitchen kitchen = Kitchens.menu("1a120b50c30");
        kitchen.tin(0, 50, 7);
        kitchen.tin(1, 50, 100);
        kitchen.stock(0, 20);
        kitchen.stock(2, 31);
        Check.due("cook()", 14 + 100, kitchen.cook());
        Check.due("count(11)", 114, kitchen.count(11));
        int[] bought = {100, 50, 0, 0};
        for (int ingredient = 0; ingredient < bought.length; ingredient++) {
            Check.due("about(" + ingredient + ", 8)", bought[ingredient], kitchen.about(ingredient, 8));
        }
        Document.sentence("of each ingredient, what is taken from the pantry and from tins is used");
        int[] used = {120, 50, 30, 0};
        int[] there = {0, 0, 1, 0};
        for (int ingredient = 0; ingredient < used.length; ingredient++) {
            Check.due("about(" + ingredient + ", 9)", used[ingredient], kitchen.about(ingredient, 9));
            Check.due("about(" + ingredient + ", 5)", there[ingredient], kitchen.about(ingredient, 5));
        }
        kitchen.menu(0, 1);
        kitchen.stock(2, 29);
        Check.due("cooked again: cook()", 3 * 7 + 100, kitchen.cook());
        Check.due("cooked again: about(0, 8)", 250, kitchen.about(0, 8));
        Check.due("cooked again: about(0, 9)", 240, kitchen.about(0, 9));
        Check.due("cooked again: about(2, 9)", 60, kitchen.about(2, 9));
        TinKitchen replaced = Kitchens.menu("1a100");
        replaced.substitute(0, 1, 50);
        replaced.stock(0, 40);
        replaced.tin(1, 50, 3);
        Check.due("replaced: cook()", 3, replaced.cook());
        Check.due("what is replaced is not used: about(0, 9)", 40, replaced.about(0, 9));
        Check.due("what replaces it is: about(1, 9)", 30, replaced.about(1, 9));
        Check.due("what replaces it: about(1, 5)", 20, replaced.about(1, 5));
    }

    /** Three lots of 10, 20 and 30 grams that spoil on the days 50, 55 and 75; it is the day 45. */
    private static TinKitchen threeLots(int needed) {
        TinKitchen kitchen = Kitchens.needing(needed);
        kitchen.pass(20);
        kitchen.stock(0, 10);
        kitchen.pass(5);
        kitchen.stock(0, 20);
        kitchen.pass(20);
        kitchen.stock(0, 30);
        return kitchen;
    }

    private static void lotsInTheirOrder() {
        Document.sentence("it is taken from the lots of the pantry in the order of the days on which they spoil");
        int[][] neededLotsDays = {{0, 3, 50}, {1, 3, 50}, {9, 3, 50}, {10, 2, 55}, {11, 2, 55}, {29, 2, 55}, {30, 1, 75}, {31, 1, 75},
            {59, 1, 75}, {60, 0, NONE}};
        for (int[] row : neededLotsDays) {
            TinKitchen kitchen = threeLots(row[0]);
            Check.due(row[0] + " of 60: cook()", 0, kitchen.cook());
            Check.due(row[0] + " of 60: about(0, 5)", 60 - row[0], kitchen.about(0, 5));
            Check.due(row[0] + " of 60: about(0, 6)", row[1], kitchen.about(0, 6));
            Check.due(row[0] + " of 60: about(0, 7)", row[2], kitchen.about(0, 7));
            Check.due(row[0] + " of 60: pass(5)", Math.max(0, 10 - row[0]), kitchen.pass(5));
            Check.due(row[0] + " of 60: pass(5)", Math.min(20, Math.max(0, 30 - row[0])), kitchen.pass(5));
            Check.due(row[0] + " of 60: pass(20)", Math.min(30, 60 - row[0]), kitchen.pass(20));
        }
        Check.due("61 of 60: cook()", NOT_POSSIBLE, threeLots(61).cook());
    }

    private static void leftOver() {
        Document.sentence("What is left of the tins that were bought becomes a lot that spoils on the day (today + the days for which it "
            + "keeps), or joins the lot with this day");
        int[][] neededLeftLots = {{50, 0, 0}, {49, 1, 1}, {51, 49, 1}, {1, 49, 1}};
        for (int[] row : neededLeftLots) {
            TinKitchen kitchen = needing(row[0], 50, 1);
            kitchen.pass(7);
            kitchen.cook();
            Check.due(row[0] + ": about(0, 5)", row[1], kitchen.about(0, 5));
            Check.due(row[0] + ": about(0, 6)", row[2], kitchen.about(0, 6));
            Check.due(row[0] + ": about(0, 7)", row[2] == 0 ? NONE : 37, kitchen.about(0, 7));
            Check.due("it is not put in by stock(): about(0, 11)", 0, kitchen.about(0, 11));
        }
        TinKitchen joined = needing(51, 50, 1);
        joined.stock(0, 30);
        joined.cook();
        Check.due("the lot of today was used up: about(0, 6)", 1, joined.about(0, 6));
        Check.due("21 of 50 were used: about(0, 5)", 29, joined.about(0, 5));
        joined.stock(0, 1);
        Check.due("stock() joins it: about(0, 6)", 1, joined.about(0, 6));
        joined.pass(1);
        joined.menu(0, 1);
        joined.cook();
        Check.due("of the next day: about(0, 6)", 1, joined.about(0, 6));
        Check.due("30 and 21 of 50 were used: about(0, 5)", 29, joined.about(0, 5));
        Check.due("of the next day: about(0, 7)", 31, joined.about(0, 7));
        TinKitchen replaced = Kitchens.menu("1a10");
        replaced.substitute(0, 2, 100);
        replaced.tin(2, 50, 1);
        replaced.cook();
        Check.due("c keeps for 3 days: about(2, 7)", 3, replaced.about(2, 7));
        Check.due("pass(2)", 0, replaced.pass(2));
        Check.due("pass(1)", 40, replaced.pass(1));
    }

    private static void emptied() {
        Document.sentence("Then all portions of the menu are 0");
        TinKitchen kitchen = Kitchens.recipes("1", "1", "1", "1");
        for (int recipe = 0; recipe < 4; recipe++) {
            kitchen.menu(recipe, 1 + recipe);
        }
        kitchen.cook();
        for (int recipe = 0; recipe < 4; recipe++) {
            Check.due("ofRecipe(" + recipe + ", 2)", 0, kitchen.ofRecipe(recipe, 2));
        }
        kitchen.undo();
        for (int recipe = 0; recipe < 4; recipe++) {
            Check.due("undone: ofRecipe(" + recipe + ", 2)", 1 + recipe, kitchen.ofRecipe(recipe, 2));
        }
    }

    /** Lots of 1, 20 and 300 grams that spoil on the days 2, 3 and 4; it is the day 1. */
    private static TinKitchen spoiling() {
        TinKitchen kitchen = Kitchens.ingredients(3);
        kitchen.pass(1);
        kitchen.stock(0, 1);
        kitchen.stock(1, 20);
        kitchen.stock(2, 300);
        return kitchen;
    }

    private static void daysPass() {
        Document.sentence("When a day passes, the lots that spoil on the new day, or before it, are thrown away");
        Check.taken(MenuBounds::spoiling, "pass(#)", TinKitchen::pass, 1, 1, 2, 21, 3, 321, 4, 321, 60, 321);
        TinKitchen kitchen = spoiling();
        int[] thrownAway = {1, 20, 300, 0};
        for (int day = 2; day <= 5; day++) {
            Check.due("to the day " + day + ": pass(1)", thrownAway[day - 2], kitchen.pass(1));
        }
        int[] grams = {1, 20, 300};
        for (int ingredient = 0; ingredient < 3; ingredient++) {
            Check.due("about(" + ingredient + ", 10)", grams[ingredient], kitchen.about(ingredient, 10));
            Check.due("about(" + ingredient + ", 5)", 0, kitchen.about(ingredient, 5));
            Check.due("about(" + ingredient + ", 7)", NONE, kitchen.about(ingredient, 7));
        }
    }
}
