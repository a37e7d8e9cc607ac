import java.util.List;
import java.util.TreeSet;
import java.util.function.Supplier;
import java.util.function.ToIntFunction;

/** Counts the answers that are not due, and ends a test. */
final class Check {
    // What can be seen of a kitchen is more than what it answers at once.
    private static final List<String> VIEWS = List.of("nothing", "undo()", "six times undo()", "restore(0)", "restore(1)");
    private static int checked = 0;
    private static int wrong = 0;
    private static String about = "";

    /** A call with a number left open; where it is told, # stands for the number. */
    interface Call {
        int of(TinKitchen kitchen, int number);
    }

    private Check() {
    }

    /** What is checked from here on is told with this ahead of it. */
    static void about(String what) {
        about = what;
    }

    static int checked() {
        return checked;
    }

    static void due(String call, long want, long got) {
        checked++;
        if (got != want) {
            tell(call + " answered " + got + ", due is " + want);
        }
    }

    static void same(String what, String want, String got) {
        checked++;
        if (!want.equals(got)) {
            tell(what + " is not the same\n  due:  " + want + "\n  seen: " + got);
        }
    }

    static void tell(String fault) {
        wrong++;
        if (wrong <= 50) {
            System.out.println(about + fault);
        }
    }

    /**
     * A call that changes nothing, neither what can be asked for nor the history nor the slots: of two
     * kitchens that start alike, one is called, and then both are looked at, in each view.
     */
    static void unchanged(Supplier<TinKitchen> start, String call, int want, ToIntFunction<TinKitchen> answer) {
        for (String view : VIEWS) {
            TinKitchen left = start.get();
            TinKitchen called = start.get();
            due(call, want, answer.applyAsInt(called));
            due(view + " behind " + call, turn(left, view), turn(called, view));
            same("the kitchen behind " + call + " and " + view, look(left), look(called));
        }
    }

    private static int turn(TinKitchen kitchen, String view) {
        switch (VIEWS.indexOf(view)) {
            case 1: return kitchen.undo();
            case 2: return undo(kitchen, 6);
            case 3: return kitchen.restore(0);
            case 4: return kitchen.restore(1);
            default: return 0;
        }
    }

    /** Undoes so many changes, and answers what the last undo answered. */
    static int undo(TinKitchen kitchen, int changes) {
        int answer = 0;
        for (int change = 0; change < changes; change++) {
            answer = kitchen.undo();
        }
        return answer;
    }

    /** A call that is a change: it is recorded, and undone everything but the pad is as it was before. */
    static void change(Supplier<TinKitchen> start, String call, int want, ToIntFunction<TinKitchen> answer) {
        TinKitchen kitchen = start.get();
        int recorded = kitchen.count(14);
        String before = state(kitchen);
        due(call, want, answer.applyAsInt(kitchen));
        due("count(14) behind " + call, recorded + 1, kitchen.count(14));
        due("it makes a difference: " + call, 0, before.equals(state(kitchen)) ? 1 : 0);
        due("undo() behind " + call, recorded, kitchen.undo());
        same("the kitchen behind " + call + " and undo()", before, state(kitchen));
    }

    /** Calls that are taken: each with a number, on a kitchen of its own, and the answer that is due. */
    static void taken(Supplier<TinKitchen> start, String call, Call made, int... numbersAndAnswers) {
        for (int at = 0; at + 1 < numbersAndAnswers.length; at += 2) {
            int number = numbersAndAnswers[at];
            due(told(call, number), numbersAndAnswers[at + 1], made.of(start.get(), number));
        }
    }

    /** Calls that are refused, and change nothing. */
    static void refused(Supplier<TinKitchen> start, String call, int error, Call made, int... numbers) {
        for (int number : numbers) {
            unchanged(start, told(call, number), error, kitchen -> made.of(kitchen, number));
        }
    }

    /**
     * Refused is all that is not from least to most: the numbers next to these, the farthest ones, and
     * those that would be good ones if their higher bits were lost, or their sign.
     */
    static void outside(Supplier<TinKitchen> start, String call, int error, int least, int most, Call made) {
        TreeSet<Integer> numbers = new TreeSet<>(List.of(least - 1, most + 1, -1, -most, -least - 1,
            Integer.MIN_VALUE, Integer.MAX_VALUE, least - 256, most + 256, least - 65536, most + 65536,
            least ^ Integer.MIN_VALUE, most ^ Integer.MIN_VALUE));
        numbers.removeIf(number -> number >= least && number <= most);
        refused(start, call, error, made, numbers.stream().mapToInt(Integer::intValue).toArray());
    }

    private static String told(String call, int number) {
        return call.replace("#", Integer.toString(number));
    }

    static void end(String test) {
        System.out.println(test + ": " + checked + " answers, " + wrong + " not as due");
        System.exit(wrong == 0 && checked > 0 ? 0 : 1);
    }

    /** Puts a text on the pad, and answers what the last put answered. */
    static int write(TinKitchen kitchen, String text) {
        int answer = 0;
        for (int at = 0; at < text.length(); at += 8) {
            answer = kitchen.put(number(text.substring(at, Math.min(text.length(), at + 8))));
        }
        return answer;
    }

    static long number(String characters) {
        long number = 0;
        for (int at = 0; at < characters.length(); at++) {
            number = number << 8 | characters.charAt(at);
        }
        return number;
    }

    /** Writes a recipe on the emptied pad and adds it. */
    static int recipe(TinKitchen kitchen, String text) {
        kitchen.wipe();
        write(kitchen, text);
        return kitchen.recipe();
    }

    /** All that can be asked for without a change. */
    static String look(TinKitchen kitchen) {
        return state(kitchen) + " | pad " + kitchen.count(13) + " fault " + kitchen.fault()
            + " | recorded " + kitchen.count(14);
    }

    /** All that undo and the slots bring back. */
    static String state(TinKitchen kitchen) {
        StringBuilder all = new StringBuilder();
        for (int what = 0; what < 13; what++) {
            all.append(kitchen.count(what)).append(' ');
        }
        int ingredients = kitchen.count(1);
        for (int ingredient = 0; ingredient < ingredients; ingredient++) {
            lookAtIngredient(kitchen, ingredient, all);
        }
        int recipes = kitchen.count(2);
        for (int recipe = 0; recipe < recipes; recipe++) {
            lookAtRecipe(kitchen, recipe, all);
        }
        return all.toString();
    }

    private static void lookAtIngredient(TinKitchen kitchen, int ingredient, StringBuilder all) {
        all.append(" | ingredient");
        for (int what = 0; what < 12; what++) {
            all.append(' ').append(kitchen.about(ingredient, what));
        }
        int kinds = kitchen.about(ingredient, 2);
        for (int kind = 0; kind < kinds; kind++) {
            for (int what = 0; what < 3; what++) {
                all.append(' ').append(kitchen.ofTin(ingredient, kind, what));
            }
        }
        for (int what = 0; what < 8; what++) {
            all.append(' ').append(kitchen.needs(ingredient, what));
        }
    }

    private static void lookAtRecipe(TinKitchen kitchen, int recipe, StringBuilder all) {
        all.append(" | recipe");
        for (int what = 0; what < 11; what++) {
            all.append(' ').append(kitchen.ofRecipe(recipe, what));
        }
        int steps = kitchen.ofRecipe(recipe, 1);
        for (int step = 0; step < steps; step++) {
            for (int what = 0; what < 6; what++) {
                all.append(' ').append(kitchen.step(recipe, step, what));
            }
        }
    }
}
