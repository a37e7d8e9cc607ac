import java.util.ArrayDeque;
import java.util.ArrayList;
import java.util.Deque;
import java.util.List;
import java.util.Map;
import java.util.TreeMap;

/**
 * The document once more, to compare the program with: slow, in another way wherever there is one (every
 * minute is looked at, every weight of tins, a text is read sign by sign), and with the Java library.
 */
final class Model {
    private static final int NO_SUCH = -1;
    private static final int BAD_VALUE = -2;
    private static final int BAD_TEXT = -3;
    private static final int TOO_MANY = -4;
    private static final int NOT_POSSIBLE = -5;
    private static final int NONE = -6;

    private Kitchen now = new Kitchen();
    private final Deque<Kitchen> history = new ArrayDeque<>();
    private final Kitchen[] slots = new Kitchen[2];
    private String pad = "";

    /** An ingredient. */
    private static final class Food {
        int days;
        int buyable = 1;
        List<int[]> tins = new ArrayList<>();
        int other = NONE;
        int rate = NONE;
        TreeMap<Integer, Integer> lots = new TreeMap<>();
        int bought;
        int used;
        int thrownAway;
        int stocked;

        Food copy() {
            Food copy = new Food();
            copy.days = days;
            copy.buyable = buyable;
            copy.tins = new ArrayList<>(tins);
            copy.other = other;
            copy.rate = rate;
            copy.lots = new TreeMap<>(lots);
            copy.bought = bought;
            copy.used = used;
            copy.thrownAway = thrownAway;
            copy.stocked = stocked;
            return copy;
        }

        int pantry() {
            return lots.values().stream().mapToInt(Integer::intValue).sum();
        }
    }

    private record Step(int duration, int hands, int before, boolean grows) {
    }

    private static final class Dish {
        int base;
        int portions;
        int[] amounts = new int[8];
        List<Step> steps = new ArrayList<>();

        Dish copy() {
            Dish copy = new Dish();
            copy.base = base;
            copy.portions = portions;
            copy.amounts = amounts.clone();
            copy.steps = steps;
            return copy;
        }

        int lasts(int step) {
            Step of = steps.get(step);
            return of.grows() ? up((long) of.duration() * portions, base) : of.duration();
        }

        int tail(int step) {
            int longest = 0;
            for (int other = 0; other < steps.size(); other++) {
                if ((steps.get(other).before() & 1 << step) != 0) {
                    longest = Math.max(longest, tail(other));
                }
            }
            return lasts(step) + longest;
        }
    }

    private static final class Kitchen {
        int day;
        int hands = 2;
        int spent;
        int cooked;
        List<Food> foods = new ArrayList<>();
        List<Dish> dishes = new ArrayList<>();

        Kitchen copy() {
            Kitchen copy = new Kitchen();
            copy.day = day;
            copy.hands = hands;
            copy.spent = spent;
            copy.cooked = cooked;
            foods.forEach(food -> copy.foods.add(food.copy()));
            dishes.forEach(dish -> copy.dishes.add(dish.copy()));
            return copy;
        }
    }

    private static int up(long number, long divisor) {
        return (int) -Math.floorDiv(-number, divisor);
    }

    private static boolean out(int number, int least, int most) {
        return number < least || number > most;
    }

    private boolean noFood(int ingredient) {
        return out(ingredient, 0, now.foods.size() - 1);
    }

    private boolean noDish(int recipe) {
        return out(recipe, 0, now.dishes.size() - 1);
    }

    private void record() {
        history.addLast(now.copy());
        if (history.size() > 6) {
            history.removeFirst();
        }
    }

    int ingredient(int days) {
        if (out(days, 1, 30)) {
            return BAD_VALUE;
        }
        if (now.foods.size() == 8) {
            return TOO_MANY;
        }
        record();
        Food food = new Food();
        food.days = days;
        now.foods.add(food);
        return now.foods.size() - 1;
    }

    int tin(int ingredient, int size, int price) {
        if (noFood(ingredient)) {
            return NO_SUCH;
        }
        if (out(size, 50, 2000) || out(price, 1, 999)) {
            return BAD_VALUE;
        }
        List<int[]> tins = now.foods.get(ingredient).tins;
        if (tins.size() == 3) {
            return TOO_MANY;
        }
        if (tins.stream().anyMatch(tin -> tin[0] == size)) {
            return NOT_POSSIBLE;
        }
        record();
        tins.add(new int[] {size, price});
        return tins.size();
    }

    int buyable(int ingredient, int is) {
        if (noFood(ingredient)) {
            return NO_SUCH;
        }
        if (out(is, 0, 1)) {
            return BAD_VALUE;
        }
        record();
        int previous = now.foods.get(ingredient).buyable;
        now.foods.get(ingredient).buyable = is;
        return previous;
    }

    int substitute(int ingredient, int other, int rate) {
        if (noFood(ingredient) || other != NONE && noFood(other)) {
            return NO_SUCH;
        }
        if (other != NONE && (other <= ingredient || out(rate, 10, 200))) {
            return BAD_VALUE;
        }
        record();
        Food food = now.foods.get(ingredient);
        int previous = food.other;
        food.other = other;
        food.rate = other == NONE ? NONE : rate;
        return previous;
    }

    int stock(int ingredient, int grams) {
        if (noFood(ingredient)) {
            return NO_SUCH;
        }
        if (out(grams, 1, 20000)) {
            return BAD_VALUE;
        }
        Food food = now.foods.get(ingredient);
        if (food.pantry() + grams > 100000) {
            return NOT_POSSIBLE;
        }
        record();
        food.lots.merge(now.day + food.days, grams, Integer::sum);
        food.stocked += grams;
        return food.pantry();
    }

    int recipe() {
        Dish dish = new Dish();
        if (read(dish) != NONE) {
            return BAD_TEXT;
        }
        if (now.dishes.size() == 4) {
            return TOO_MANY;
        }
        for (int ingredient = now.foods.size(); ingredient < 8; ingredient++) {
            if (dish.amounts[ingredient] > 0) {
                return NOT_POSSIBLE;
            }
        }
        record();
        now.dishes.add(dish);
        pad = "";
        return now.dishes.size() - 1;
    }

    int amount(int recipe, int ingredient, int grams) {
        if (noDish(recipe) || noFood(ingredient)) {
            return NO_SUCH;
        }
        if (out(grams, 0, 500)) {
            return BAD_VALUE;
        }
        record();
        int previous = now.dishes.get(recipe).amounts[ingredient];
        now.dishes.get(recipe).amounts[ingredient] = grams;
        return previous;
    }

    int menu(int recipe, int portions) {
        if (noDish(recipe)) {
            return NO_SUCH;
        }
        if (out(portions, 0, 20)) {
            return BAD_VALUE;
        }
        record();
        int previous = now.dishes.get(recipe).portions;
        now.dishes.get(recipe).portions = portions;
        return previous;
    }

    int hands(int hands) {
        if (out(hands, 1, 6)) {
            return BAD_VALUE;
        }
        record();
        int previous = now.hands;
        now.hands = hands;
        return previous;
    }

    /** What is bought and what is not for the menu: for each ingredient the numbers of needs, then the tins. */
    private static int[][] plan(Kitchen kitchen) {
        int count = kitchen.foods.size();
        int[][] plan = new int[count][11];
        for (int at = 0; at < count; at++) {
            for (Dish dish : kitchen.dishes) {
                plan[at][0] += up((long) dish.amounts[at] * dish.portions, dish.base);
            }
        }
        for (int at = 0; at < count; at++) {
            Food food = kitchen.foods.get(at);
            plan[at][2] = Math.min(plan[at][0], food.pantry());
            int left = plan[at][0] - plan[at][2];
            if (left == 0) {
                continue;
            }
            if (food.buyable == 1 && !food.tins.isEmpty()) {
                int[] best = cheapest(food.tins, left);
                plan[at][7] = best[0];
                plan[at][3] = best[1];
                plan[at][4] = best[1] - left;
                System.arraycopy(best, 2, plan[at], 8, 3);
                continue;
            }
            int more = food.other == NONE ? 0 : up((long) left * food.rate, 100);
            if (food.other != NONE && plan[food.other][0] + more <= 100000) {
                plan[at][5] = left;
                plan[food.other][0] += more;
                plan[food.other][1] += more;
            } else {
                plan[at][6] = left;
            }
        }
        return plan;
    }

    /** The price, the weight and the tins of each kind; for each weight the best tins are found. */
    private static int[] cheapest(List<int[]> tins, int least) {
        int most = least + 2000;
        // price, tins, tins of kind 0, tins of kind 1, one behind the other
        long[] best = new long[most + 1];
        for (int weight = 1; weight <= most; weight++) {
            best[weight] = Long.MAX_VALUE;
            for (int kind = 0; kind < tins.size(); kind++) {
                int before = weight - tins.get(kind)[0];
                if (before >= 0 && best[before] != Long.MAX_VALUE) {
                    long more = ((long) tins.get(kind)[1] << 36) + (1L << 24) + (kind == 0 ? 1L << 12 : kind == 1 ? 1 : 0);
                    best[weight] = Math.min(best[weight], best[before] + more);
                }
            }
        }
        int chosen = least;
        for (int weight = least; weight <= most; weight++) {
            if (best[weight] != Long.MAX_VALUE && best[weight] >> 36 < best[chosen] >> 36) {
                chosen = weight;
            }
        }
        int all = (int) (best[chosen] >> 24 & 4095);
        int first = (int) (best[chosen] >> 12 & 4095);
        int second = (int) (best[chosen] & 4095);
        return new int[] {(int) (best[chosen] >> 36), chosen, first, second, all - first - second};
    }

    private static int sum(int[][] plan, int what) {
        int sum = 0;
        for (int[] row : plan) {
            sum += row[what];
        }
        return sum;
    }

    private static int missing(int[][] plan) {
        int set = 0;
        for (int at = 0; at < plan.length; at++) {
            set |= plan[at][6] > 0 ? 1 << at : 0;
        }
        return set;
    }

    private static boolean canBeCooked(Kitchen kitchen) {
        return missing(plan(kitchen)) == 0 && kitchen.dishes.stream().anyMatch(dish -> dish.portions > 0);
    }

    int cook() {
        if (!canBeCooked(now)) {
            return NOT_POSSIBLE;
        }
        record();
        int[][] plan = plan(now);
        for (int at = 0; at < plan.length; at++) {
            Food food = now.foods.get(at);
            for (int gram = 0; gram < plan[at][2]; gram++) {
                Map.Entry<Integer, Integer> first = food.lots.firstEntry();
                if (first.getValue() == 1) {
                    food.lots.remove(first.getKey());
                } else {
                    food.lots.put(first.getKey(), first.getValue() - 1);
                }
            }
            if (plan[at][4] > 0) {
                food.lots.merge(now.day + food.days, plan[at][4], Integer::sum);
            }
            food.bought += plan[at][3];
            food.used += plan[at][2] + plan[at][3] - plan[at][4];
        }
        now.dishes.forEach(dish -> dish.portions = 0);
        now.spent += sum(plan, 7);
        now.cooked++;
        return sum(plan, 7);
    }

    int pass(int days) {
        if (out(days, 1, 60)) {
            return BAD_VALUE;
        }
        if (now.day + days > 3000) {
            return NOT_POSSIBLE;
        }
        record();
        now.day += days;
        int all = 0;
        for (Food food : now.foods) {
            while (!food.lots.isEmpty() && food.lots.firstKey() <= now.day) {
                int grams = food.lots.pollFirstEntry().getValue();
                food.thrownAway += grams;
                all += grams;
            }
        }
        return all;
    }

    int about(int ingredient, int what) {
        if (noFood(ingredient)) {
            return NO_SUCH;
        }
        Food food = now.foods.get(ingredient);
        int[] numbers = {food.days, food.buyable, food.tins.size(), food.other, food.rate, food.pantry(),
            food.lots.size(), food.lots.isEmpty() ? NONE : food.lots.firstKey(), food.bought, food.used,
            food.thrownAway, food.stocked};
        return out(what, 0, 11) ? BAD_VALUE : numbers[what];
    }

    int ofTin(int ingredient, int kind, int what) {
        if (noFood(ingredient) || out(kind, 0, now.foods.get(ingredient).tins.size() - 1)) {
            return NO_SUCH;
        }
        if (out(what, 0, 2)) {
            return BAD_VALUE;
        }
        return what == 2 ? plan(now)[ingredient][8 + kind] : now.foods.get(ingredient).tins.get(kind)[what];
    }

    int needs(int ingredient, int what) {
        if (noFood(ingredient)) {
            return NO_SUCH;
        }
        return out(what, 0, 7) ? BAD_VALUE : plan(now)[ingredient][what];
    }

    int step(int recipe, int step, int what) {
        if (noDish(recipe) || out(step, 0, now.dishes.get(recipe).steps.size() - 1)) {
            return NO_SUCH;
        }
        Dish dish = now.dishes.get(recipe);
        Step of = dish.steps.get(step);
        boolean isOff = dish.portions == 0;
        switch (what) {
            case 0: return isOff ? of.duration() : dish.lasts(step);
            case 1: return of.hands();
            case 2: return of.before();
            case 3: return of.grows() ? 1 : 0;
            case 4: return isOff ? NONE : dish.tail(step);
            case 5: return isOff ? NONE : begins(now.hands)[recipe][step];
            default: return BAD_VALUE;
        }
    }

    /** When each step begins: minute by minute. */
    private int[][] begins(int hands) {
        int[][] begins = new int[4][8];
        List<int[]> order = new ArrayList<>();
        for (int recipe = 0; recipe < now.dishes.size(); recipe++) {
            for (int step = 0; step < now.dishes.get(recipe).steps.size(); step++) {
                begins[recipe][step] = NONE;
                if (now.dishes.get(recipe).portions > 0) {
                    order.add(new int[] {recipe, step, now.dishes.get(recipe).tail(step)});
                }
            }
        }
        order.sort((one, other) -> other[2] - one[2]);
        boolean goesOn = true;
        for (int minute = 0; goesOn; minute++) {
            int free = hands;
            goesOn = false;
            for (int[] at : order) {
                if (isRunning(begins, at[0], at[1], minute)) {
                    free -= now.dishes.get(at[0]).steps.get(at[1]).hands();
                    goesOn = true;
                }
            }
            for (int[] at : order) {
                int needed = now.dishes.get(at[0]).steps.get(at[1]).hands();
                if (begins[at[0]][at[1]] == NONE && needed <= free && isReady(begins, at[0], at[1], minute)) {
                    begins[at[0]][at[1]] = minute;
                    free -= needed;
                    goesOn = true;
                }
            }
        }
        return begins;
    }

    private boolean isRunning(int[][] begins, int recipe, int step, int minute) {
        int begin = begins[recipe][step];
        return begin != NONE && begin <= minute && begin + now.dishes.get(recipe).lasts(step) > minute;
    }

    private boolean isReady(int[][] begins, int recipe, int step, int minute) {
        for (int other = 0; other < step; other++) {
            boolean isBefore = (now.dishes.get(recipe).steps.get(step).before() >> other & 1) == 1;
            if (isBefore && (begins[recipe][other] == NONE || isRunning(begins, recipe, other, minute))) {
                return false;
            }
        }
        return true;
    }

    private int end(int hands) {
        int[][] begins = begins(hands);
        int end = 0;
        for (int recipe = 0; recipe < now.dishes.size(); recipe++) {
            Dish dish = now.dishes.get(recipe);
            for (int step = 0; step < dish.steps.size() && dish.portions > 0; step++) {
                if (begins[recipe][step] == NONE) {
                    return NONE;
                }
                end = Math.max(end, begins[recipe][step] + dish.lasts(step));
            }
        }
        return end;
    }

    private int work() {
        int work = 0;
        for (Dish dish : now.dishes) {
            for (int step = 0; step < dish.steps.size() && dish.portions > 0; step++) {
                work += dish.lasts(step) * dish.steps.get(step).hands();
            }
        }
        return work;
    }

    private int bound() {
        int bound = up(work(), now.hands);
        for (Dish dish : now.dishes) {
            for (int step = 0; step < dish.steps.size() && dish.portions > 0; step++) {
                bound = Math.max(bound, dish.tail(step));
            }
        }
        return bound;
    }

    int ofRecipe(int recipe, int what) {
        if (noDish(recipe)) {
            return NO_SUCH;
        }
        Dish dish = now.dishes.get(recipe);
        if (out(what, 0, 10)) {
            return BAD_VALUE;
        }
        return what == 0 ? dish.base : what == 1 ? dish.steps.size() : what == 2 ? dish.portions : dish.amounts[what - 3];
    }

    int count(int what) {
        switch (what) {
            case 0: return now.day;
            case 1: return now.foods.size();
            case 2: return now.dishes.size();
            case 3: return now.hands;
            case 4: return sum(plan(now), 7);
            case 5: return sum(plan(now), 4);
            case 6: return missing(plan(now));
            case 7: return canBeCooked(now) ? 1 : 0;
            case 8: return end(now.hands);
            case 9: return bound();
            case 10: return work();
            case 11: return now.spent;
            case 12: return now.cooked;
            case 13: return pad.length();
            case 14: return history.size();
            default: return BAD_VALUE;
        }
    }

    int bestPortions(int recipe, int least, int most) {
        if (noDish(recipe)) {
            return NO_SUCH;
        }
        if (out(least, 1, 20) || out(most, least, 20)) {
            return BAD_VALUE;
        }
        int best = NONE;
        int bestLeft = Integer.MAX_VALUE;
        for (int portions = most; portions >= least; portions--) {
            Kitchen tried = now.copy();
            tried.dishes.get(recipe).portions = portions;
            int left = sum(plan(tried), 4);
            if (canBeCooked(tried) && left < bestLeft) {
                best = portions;
                bestLeft = left;
            }
        }
        return best;
    }

    int fewestHands(int time) {
        if (out(time, 0, 5000)) {
            return BAD_VALUE;
        }
        for (int hands = 1; hands <= 6; hands++) {
            int end = end(hands);
            if (end != NONE && end <= time) {
                return hands;
            }
        }
        return NONE;
    }

    int ifBuyable(int ingredient, int is) {
        if (noFood(ingredient)) {
            return NO_SUCH;
        }
        if (out(is, 0, 1)) {
            return BAD_VALUE;
        }
        Kitchen tried = now.copy();
        tried.foods.get(ingredient).buyable = is;
        int[][] plan = plan(tried);
        return missing(plan) == 0 ? sum(plan, 7) : NONE;
    }

    int put(long characters) {
        StringBuilder text = new StringBuilder();
        boolean hasEnded = false;
        for (int at = 0; at < 8; at++) {
            int code = (int) (characters >>> 8 * at & 255);
            if (code == 0) {
                hasEnded = true;
            } else if (hasEnded || out(code, 33, 126)) {
                return BAD_VALUE;
            } else {
                text.insert(0, (char) code);
            }
        }
        if (text.isEmpty()) {
            return BAD_VALUE;
        }
        if (pad.length() + text.length() > 80) {
            return TOO_MANY;
        }
        pad += text;
        return pad.length();
    }

    int wipe() {
        int length = pad.length();
        pad = "";
        return length;
    }

    int fault() {
        return read(new Dish());
    }

    /** The number that is read: B base portions, A an amount, D a duration. Other states: what was read last. */
    private int read(Dish dish) {
        char state = 'B';
        int number = 0;
        int name = 0;
        int[] step = new int[4];
        for (int at = 0; at < pad.length(); at++) {
            char sign = pad.charAt(at);
            boolean isNumber = state == 'B' || state == 'A' || state == 'D';
            boolean canEnd = number > 0 && (state == 'B' || state == 'A') || "h*n".indexOf(state) >= 0;
            int digit = sign >= '0' && sign <= '9' ? sign - '0' : -1;
            int most = state == 'B' ? 20 : state == 'A' ? 500 : 240;
            if (isNumber && digit >= 0 && number * 10 + digit > 0 && number * 10 + digit <= most) {
                number = number * 10 + digit;
                keep(dish, state, number, name, step);
            } else if (canEnd && "BA".indexOf(state) >= 0 && sign >= 'a' && sign <= 'h' && dish.amounts[sign - 'a'] == 0) {
                state = 'A';
                name = sign - 'a';
                number = 0;
            } else if (canEnd && sign == ';' && dish.steps.size() < 8) {
                state = 'D';
                number = 0;
                step = new int[4];
                dish.steps.add(new Step(0, 0, 0, false));
            } else if (state == 'D' && number > 0 && sign == '/') {
                state = '/';
            } else if (state == '/' && digit >= 0 && digit <= 3) {
                state = 'h';
                step[1] = digit;
                keep(dish, state, 0, 0, step);
            } else if (state == 'h' && sign == '*') {
                state = '*';
                step[3] = 1;
                keep(dish, state, 0, 0, step);
            } else if ("h*n".indexOf(state) >= 0 && sign == '@') {
                state = '@';
            } else if (state == '@' && digit >= 0 && digit < dish.steps.size() - 1 && (step[2] >> digit & 1) == 0) {
                state = 'n';
                step[2] |= 1 << digit;
                keep(dish, state, 0, 0, step);
            } else {
                return at;
            }
        }
        boolean canEnd = number > 0 && (state == 'B' || state == 'A') || "h*n".indexOf(state) >= 0;
        return canEnd ? NONE : pad.length();
    }

    private static void keep(Dish dish, char state, int number, int name, int[] step) {
        if (state == 'B') {
            dish.base = number;
        } else if (state == 'A') {
            dish.amounts[name] = number;
        } else {
            step[0] = state == 'D' ? number : step[0];
            dish.steps.set(dish.steps.size() - 1, new Step(step[0], step[1], step[2], step[3] == 1));
        }
    }

    int undo() {
        if (history.isEmpty()) {
            return NOT_POSSIBLE;
        }
        now = history.removeLast();
        return history.size();
    }

    int save(int slot) {
        if (out(slot, 0, 1)) {
            return BAD_VALUE;
        }
        slots[slot] = now.copy();
        return now.day;
    }

    int restore(int slot) {
        if (out(slot, 0, 1)) {
            return BAD_VALUE;
        }
        if (slots[slot] == null) {
            return NOT_POSSIBLE;
        }
        record();
        now = slots[slot].copy();
        return now.day;
    }
}
