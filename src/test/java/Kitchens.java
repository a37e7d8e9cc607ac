/** Kitchens to begin with. */
final class Kitchens {
    private Kitchens() {
    }

    /**
     * Something of all kinds, on the day 1: two ingredients with tins, a and b, lots of both, a recipe in the
     * menu, a text on the pad, different states in both slots, and 5 changes that can be undone.
     */
    static TinKitchen filled() {
        TinKitchen kitchen = new TinKitchen();
        kitchen.ingredient(3);
        kitchen.ingredient(5);
        kitchen.tin(0, 100, 40);
        kitchen.tin(1, 500, 99);
        kitchen.substitute(0, 1, 50);
        kitchen.save(0);
        kitchen.stock(0, 120);
        kitchen.pass(1);
        kitchen.stock(0, 30);
        Check.due("recipe()", 0, Check.recipe(kitchen, "4a200b30;10/1;20/2*@0;5/0@0@1"));
        kitchen.menu(0, 2);
        kitchen.cook();
        kitchen.save(1);
        kitchen.menu(0, 6);
        kitchen.hands(5);
        kitchen.undo();
        kitchen.put(Check.number("7x"));
        return kitchen;
    }

    /** So many ingredients that keep for 1, 2, 3 .. days; nothing is recorded but the last ones. */
    static TinKitchen ingredients(int count) {
        TinKitchen kitchen = new TinKitchen();
        for (int number = 0; number < count; number++) {
            kitchen.ingredient(1 + number);
        }
        return kitchen;
    }

    /** Eight ingredients and these recipes. */
    static TinKitchen recipes(String... texts) {
        TinKitchen kitchen = ingredients(8);
        for (int recipe = 0; recipe < texts.length; recipe++) {
            Check.due("recipe() of " + texts[recipe], recipe, Check.recipe(kitchen, texts[recipe]));
        }
        return kitchen;
    }

    /** Recipes that are all in the menu, for their base portions, if these are 1. */
    static TinKitchen menu(String... texts) {
        TinKitchen kitchen = recipes(texts);
        for (int recipe = 0; recipe < texts.length; recipe++) {
            kitchen.menu(recipe, 1);
        }
        return kitchen;
    }

    /** Filled, and on a day from 2 to 3000. */
    static TinKitchen onDay(int day) {
        TinKitchen kitchen = filled();
        int left = day - 1;
        while (left > 0) {
            kitchen.pass(Math.min(left, 60));
            left -= Math.min(left, 60);
        }
        return kitchen;
    }

    /** One ingredient, a, that a recipe in the menu needs so much of (0 to 500); it has no tins. */
    static TinKitchen needing(int grams) {
        TinKitchen kitchen = new TinKitchen();
        kitchen.ingredient(30);
        Check.recipe(kitchen, "1a1");
        kitchen.amount(0, 0, grams);
        kitchen.menu(0, 1);
        return kitchen;
    }
}
