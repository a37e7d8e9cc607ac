import java.util.function.Supplier;
import java.util.function.ToIntFunction;

/** Counts the answers that are not due, and ends a test. */
final class Check {
    private static int checked = 0;
    private static int wrong = 0;

    private Check() {
    }

    static void due(String call, long want, long got) {
        checked++;
        if (got != want) {
            wrong++;
            if (wrong <= 50) {
                System.out.println(call + " answered " + got + ", due is " + want);
            }
        }
    }

    static void same(String what, String want, String got) {
        checked++;
        if (!want.equals(got)) {
            wrong++;
            System.out.println(what + " is not the same\n  before: " + want + "\n  then:   " + got);
        }
    }

    /**
     * A call that changes nothing: of two kitchens that start alike, one is called, and then both are
     * looked at, and looked at again when their latest change is undone.
     */
    static void unchanged(Supplier<TinKitchen> start, String call, int want, ToIntFunction<TinKitchen> answer) {
        TinKitchen left = start.get();
        TinKitchen called = start.get();
        due(call, want, answer.applyAsInt(called));
        same("the kitchen behind " + call, look(left), look(called));
        left.undo();
        called.undo();
        same("what is undone behind " + call, look(left), look(called));
    }

    static void end(String test) {
        System.out.println(test + ": " + checked + " answers, " + wrong + " not as due");
        System.exit(wrong == 0 && checked > 0 ? 0 : 1);
    }

    /** Puts a text on the pad, and answers what the last put answered. */
    static int write(TinKitchen kitchen, String text) {
        int answer = 0;
        for (int at = 0; at < text.length(); at += 8) {
            answer = kitchen.put(number(text.substring(at, Math.min(text.length(), at + 8))));
        }
        return answer;
    }

    static long number(String characters) {
        long number = 0;
        for (int at = 0; at < characters.length(); at++) {
            number = number << 8 | characters.charAt(at);
        }
        return number;
    }

    /** Writes a recipe on the emptied pad and adds it. */
    static int recipe(TinKitchen kitchen, String text) {
        kitchen.wipe();
        write(kitchen, text);
        return kitchen.recipe();
    }

    /** All that can be asked for without a change. */
    static String look(TinKitchen kitchen) {
        StringBuilder all = new StringBuilder();
        for (int what = 0; what < 15; what++) {
            all.append(kitchen.count(what)).append(' ');
        }
        all.append("fault ").append(kitchen.fault());
        for (int ingredient = 0; ingredient < kitchen.count(1); ingredient++) {
            lookAtIngredient(kitchen, ingredient, all);
        }
        for (int recipe = 0; recipe < kitchen.count(2); recipe++) {
            lookAtRecipe(kitchen, recipe, all);
        }
        return all.toString();
    }

    private static void lookAtIngredient(TinKitchen kitchen, int ingredient, StringBuilder all) {
        all.append(" | ingredient");
        for (int what = 0; what < 12; what++) {
            all.append(' ').append(kitchen.about(ingredient, what));
        }
        for (int kind = 0; kind < kitchen.about(ingredient, 2); kind++) {
            for (int what = 0; what < 3; what++) {
                all.append(' ').append(kitchen.ofTin(ingredient, kind, what));
            }
        }
        for (int what = 0; what < 8; what++) {
            all.append(' ').append(kitchen.needs(ingredient, what));
        }
    }

    private static void lookAtRecipe(TinKitchen kitchen, int recipe, StringBuilder all) {
        all.append(" | recipe");
        for (int what = 0; what < 11; what++) {
            all.append(' ').append(kitchen.ofRecipe(recipe, what));
        }
        for (int step = 0; step < kitchen.ofRecipe(recipe, 1); step++) {
            for (int what = 0; what < 6; what++) {
                all.append(' ').append(kitchen.step(recipe, step, what));
            }
        }
    }
}
