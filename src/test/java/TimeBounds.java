/** The bounds of hands and time. */
final class TimeBounds {
    private static final int BAD_VALUE = TinKitchen.BAD_VALUE;
    private static final int NONE = TinKitchen.NONE;

    private TimeBounds() {
    }

    static void run() {
        hands();
        portions();
        tails();
        ready();
        order();
        begins();
        never();
        bound();
        longest();
    }

    /** When the steps of recipe 0 begin. */
    private static void begins(String of, TinKitchen kitchen, int... times) {
        begins(of, kitchen, 0, times);
    }

    private static void begins(String of, TinKitchen kitchen, int recipe, int[] times) {
        for (int step = 0; step < times.length; step++) {
            Check.due(of + ": step(" + recipe + ", " + step + ", 5)", times[step], kitchen.step(recipe, step, 5));
        }
    }

    private static TinKitchen menu(int hands, String... texts) {
        TinKitchen kitchen = Kitchens.menu(texts);
        kitchen.hands(hands);
        return kitchen;
    }

    private static void hands() {
        Document.section("Hands and time");
        Document.sentence("There are some hands (1 to 6; 2 at first)");
        Check.due("at first: count(3)", 2, new TinKitchen().count(3));
        Check.taken(TinKitchen::new, "hands(#)", TinKitchen::hands, 0, BAD_VALUE, 1, 2, 6, 2, 7, BAD_VALUE);
        String seven = "1;5/1;5/1;5/1;5/1;5/1;5/1;5/1";
        begins("1", menu(1, seven), 0, 5, 10, 15, 20, 25, 30);
        begins("2 at first", Kitchens.menu(seven), 0, 0, 5, 5, 10, 10, 15);
        begins("6", menu(6, seven), 0, 0, 0, 0, 0, 0, 5);
    }

    private static void portions() {
        Document.sentence("All steps of the recipes with portions are done, from the time 0 on");
        TinKitchen kitchen = Kitchens.recipes("1;10/1", "1;20/1", "1", "1;40/0");
        Check.due("no portions: count(8)", 0, kitchen.count(8));
        Check.due("no portions: count(10)", 0, kitchen.count(10));
        kitchen.menu(2, 1);
        Check.due("no steps: count(8)", 0, kitchen.count(8));
        kitchen.menu(3, 1);
        Check.due("the last one: count(8)", 40, kitchen.count(8));
        Check.due("the last one: step(3, 0, 5)", 0, kitchen.step(3, 0, 5));
        Check.due("another one: step(0, 0, 5)", NONE, kitchen.step(0, 0, 5));
        kitchen.hands(1);
        kitchen.menu(0, 20);
        kitchen.menu(1, 1);
        Check.due("all: step(0, 0, 5)", 20, kitchen.step(0, 0, 5));
        Check.due("all: step(1, 0, 5)", 0, kitchen.step(1, 0, 5));
        Check.due("all: count(10)", 30, kitchen.count(10));
    }

    private static void tails() {
        Document.sentence("The tail of a step is its duration plus the greatest tail of the steps of its recipe that name it as one that "
            + "comes before them (0 without such ones)");
        TinKitchen kitchen = menu(2, "1;1/0;10/0@0;100/0@0;7/0@1@2;5/0", "1;3/0;4/0@0");
        int[] tails = {1 + 100 + 7, 10 + 7, 100 + 7, 7, 5};
        for (int step = 0; step < tails.length; step++) {
            Check.due("step(0, " + step + ", 4)", tails[step], kitchen.step(0, step, 4));
        }
        Check.due("of another recipe: step(1, 0, 4)", 7, kitchen.step(1, 0, 4));
        Check.due("of another recipe: step(1, 1, 4)", 4, kitchen.step(1, 1, 4));
        TinKitchen chain = menu(2, "1;1/0;2/0@0;4/0@1;8/0@2;16/0@3;32/0@4;64/0@5;128/0@6");
        for (int step = 0; step < 8; step++) {
            Check.due("a chain: step(0, " + step + ", 4)", 256 - (1 << step), chain.step(0, step, 4));
        }
        TinKitchen growing = Kitchens.recipes("2;5/0*;5/0@0");
        growing.menu(0, 1);
        Check.due("3 for a portion: step(0, 0, 4)", 8, growing.step(0, 0, 4));
        growing.menu(0, 20);
        Check.due("50 for 20 portions: step(0, 0, 4)", 55, growing.step(0, 0, 4));
        growing.menu(0, 0);
        Check.due("no portions: step(0, 0, 4)", NONE, growing.step(0, 0, 4));
    }

    private static void ready() {
        Document.sentence("A step is ready if all that come before it have ended");
        begins("none comes before", menu(6, "1;5/1;6/1"), 0, 0);
        begins("one comes before", menu(6, "1;5/1;6/1@0"), 0, 5);
        begins("the longest of two counts", menu(6, "1;5/1;6/1;1/1@0@1"), 0, 0, 6);
        begins("the longest of two counts", menu(6, "1;6/1;5/1;1/1@0@1"), 0, 0, 6);
        begins("seven come before", menu(6, "1;1/0;2/0;3/0;4/0;5/0;6/0;7/0;1/0@0@1@2@3@4@5@6"), 0, 0, 0, 0, 0, 0, 0, 7);
        begins("one by one", menu(6, "1;1/0;1/0@0;1/0@1;1/0@2;1/0@3;1/0@4;1/0@5;1/0@6"), 0, 1, 2, 3, 4, 5, 6, 7);
    }

    private static void order() {
        Document.sentence("At each time, from 0 on, the steps that are ready and have not begun are looked at, those with a greater tail "
            + "first, of several those of lower recipes, then lower steps");
        begins("a greater tail", menu(1, "1;5/1;6/1"), 6, 0);
        begins("a greater tail, not a longer step", menu(1, "1;5/1;6/1;2/0@0"), 0, 5, 5);
        begins("equal tails: lower steps", menu(1, "1;5/1;5/1"), 0, 5);
        begins("equal tails, another duration: lower steps", menu(1, "1;3/1;5/1;2/0@0"), 0, 3, 3);
        TinKitchen equal = menu(1, "1;3/1;5/1", "1;5/1;5/1", "1;5/1", "1;6/1");
        begins("equal tails: lower recipes", equal, 0, new int[] {26, 6});
        begins("equal tails: lower recipes", equal, 1, new int[] {11, 16});
        begins("equal tails: lower recipes", equal, 2, new int[] {21});
        begins("a greater tail of the last recipe", equal, 3, new int[] {0});
        begins("a step that is not ready is passed over", menu(2, "1;1/0;5/2@0;3/2"), 0, 3, 0);
    }

    private static void begins() {
        Document.sentence("each one begins if it needs no more hands than are free, and has them until it ends");
        begins("just as many as are free", menu(3, "1;5/1;4/2"), 0, 0);
        begins("one more than are free", menu(2, "1;5/1;4/2"), 0, 5);
        begins("what fits is not held back", menu(3, "1;9/2;8/2;7/1"), 0, 9, 0);
        begins("nor at the same time by what has just begun", menu(3, "1;9/2;8/1;7/1"), 0, 0, 8);
        begins("six hands, three and three", menu(6, "1;9/3;8/3;7/1"), 0, 0, 8);
        begins("hands that come free one by one", menu(3, "1;4/1;5/1;6/1;3/3"), 0, 0, 0, 6);
        begins("two of three are free again", menu(3, "1;10/1;9/1;5/1;2/2"), 0, 0, 0, 9);
        begins("one of three is free again", menu(3, "1;10/2;9/1;5/1;4/1"), 0, 0, 9, 10);
        Document.sentence("(One that needs none always begins. A step that ends at a time has its hands free then, and steps behind it are "
            + "ready then.)");
        begins("needs none", menu(1, "1;9/1;8/0;7/0"), 0, 0, 0);
        begins("its hands are free", menu(1, "1;9/1;8/1"), 0, 9);
        begins("what is behind it is ready", menu(1, "1;9/0;8/1@0"), 0, 9);
        begins("both", menu(3, "1;9/3;8/3@0"), 0, 9);
        begins("what is behind it takes its hands", menu(1, "1;9/1;8/1@0;10/1"), 0, 19, 9);
    }

    private static void never() {
        Document.sentence("A step that needs more hands than there are never begins");
        for (int needed = 0; needed <= 3; needed++) {
            for (int there = 1; there <= 6; there++) {
                TinKitchen kitchen = menu(there, "1;5/" + needed);
                Check.due(needed + " of " + there + ": step(0, 0, 5)", needed > there ? NONE : 0, kitchen.step(0, 0, 5));
                Check.due(needed + " of " + there + ": count(8)", needed > there ? NONE : 5, kitchen.count(8));
            }
        }
        Document.sentence("then, the menu has no end");
        TinKitchen kitchen = menu(2, "1;9/1;8/3@0;7/0@1;6/1", "1;5/2");
        begins("what is behind it", kitchen, 0, NONE, NONE, 0);
        begins("what is not", kitchen, 1, new int[] {9});
        Check.due("count(8)", NONE, kitchen.count(8));
        Check.due("fewestHands(5000)", 3, kitchen.fewestHands(5000));
        kitchen.menu(0, 0);
        Check.due("without it: count(8)", 5, kitchen.count(8));
    }

    private static void bound() {
        Document.sentence("The bound of the menu is the greater one of these two: the greatest tail of all steps (of recipes with "
            + "portions, as they last for these)");
        Check.due("without steps: count(9)", 0, new TinKitchen().count(9));
        Check.due("no hands are needed: count(9)", 15, menu(1, "1;10/0;5/0@0").count(9));
        Check.due("the tail is greater: count(9)", 11, menu(2, "1;11/1;10/1").count(9));
        Check.due("both are equal: count(9)", 10, menu(2, "1;10/1;10/1").count(9));
        Check.due("of the second recipe: count(9)", 12, menu(6, "1;10/1", "1;12/1", "1;11/1").count(9));
        TinKitchen growing = Kitchens.recipes("2;5/1*", "1;240/0");
        growing.menu(0, 1);
        Check.due("3 for a portion, without the other recipe: count(9)", 3, growing.count(9));
        growing.menu(0, 20);
        Check.due("50 for 20 portions: count(9)", 50, growing.count(9));
        Document.sentence("and the sum of (duration * hands) of all these steps, divided by the number of hands, rounded up");
        int[] bounds = {31, 16, 11, 10, 10, 10};
        for (int hands = 1; hands <= 6; hands++) {
            Check.due(hands + " hands: count(9)", bounds[hands - 1], menu(hands, "1;10/1;10/1;10/1;1/1").count(9));
        }
        Check.due("a sum that is divided evenly: count(9)", 15, menu(2, "1;10/1;10/1;10/1").count(9));
        Check.due("hands count: count(9)", 30, menu(1, "1;10/3").count(9));
        Check.due("hands count: count(10)", 30, menu(1, "1;10/3").count(10));
        Check.due("all recipes count: count(9)", 40, menu(1, "1;10/1", "1;10/1", "1;10/1", "1;10/1").count(9));
    }

    /** All that four recipes can have: 32 steps of 4800 minutes, with 3 hands each. */
    private static void longest() {
        Document.sentence("the sum of (duration * hands) of all these steps");
        String eight = "1" + ";240/3*".repeat(8);
        TinKitchen kitchen = Kitchens.recipes(eight, eight, eight, eight);
        for (int recipe = 0; recipe < 4; recipe++) {
            kitchen.menu(recipe, 20);
        }
        Check.due("never: count(8)", NONE, kitchen.count(8));
        kitchen.hands(3);
        Check.due("one by one: count(8)", 32 * 4800, kitchen.count(8));
        Check.due("one by one: step(3, 7, 5)", 31 * 4800, kitchen.step(3, 7, 5));
        Check.due("count(9)", 32 * 4800, kitchen.count(9));
        Check.due("count(10)", 32 * 4800 * 3, kitchen.count(10));
        kitchen.hands(6);
        Check.due("two by two: count(8)", 16 * 4800, kitchen.count(8));
        Check.due("fewestHands(5000)", NONE, kitchen.fewestHands(5000));
    }
}
