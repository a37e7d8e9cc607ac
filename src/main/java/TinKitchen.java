/**
 * A kitchen that cooks menus: recipes that scale with the portions, tins that are bought as cheaply
 * as can be, substitutes, a pantry that spoils, steps that overlap as far as there are hands,
 * recipes that are read from texts, and undo.
 */
public final class TinKitchen {
    public static final int NO_SUCH = -1, BAD_VALUE = -2, BAD_TEXT = -3, TOO_MANY = -4, NOT_POSSIBLE = -5, NONE = -6;

    private static final int INGREDIENTS = 8;
    private static final int MOST_KEPT_DAYS = 30;
    private static final int KINDS = 3;
    private static final int LEAST_SIZE = 50;
    private static final int MOST_SIZE = 2000;
    private static final int MOST_PRICE = 999;
    private static final int LEAST_RATE = 10;
    private static final int MOST_RATE = 200;
    private static final int MOST_STOCKED = 20000;
    private static final int MOST_GRAMS = 100000;
    private static final int RECIPES = 4;
    private static final int STEPS = 8;
    private static final int ALL_STEPS = RECIPES * STEPS;
    private static final int MOST_AMOUNT = 500;
    private static final int MOST_PORTIONS = 20;
    private static final int MOST_DURATION = 240;
    private static final int MOST_STEP_HANDS = 3;
    private static final int FIRST_HANDS = 2;
    private static final int MOST_HANDS = 6;
    private static final int MOST_PASSED_DAYS = 60;
    private static final int LAST_DAY = 3000;
    private static final int LAST_TIME = 5000;
    private static final int PAD_LENGTH = 80;
    private static final int PUT_LENGTH = 8;
    private static final int HISTORY = 6;
    private static final int SLOTS = 2;

    private final State now = new State();
    private final History history = new History();
    private final State[] slots = new State[SLOTS];
    private final boolean[] isSaved = new boolean[SLOTS];
    private final Reader reader = new Reader();
    private final Pad pad = reader.pad;
    private final Shopping shopping = new Shopping();
    private final Schedule schedule = new Schedule();

    public TinKitchen() {
        for (int slot = 0; slot < SLOTS; slot++) {
            slots[slot] = new State();
        }
    }

    // ---- ingredients

    public int ingredient(int days) {
        if (!isWithin(days, 1, MOST_KEPT_DAYS)) {
            return BAD_VALUE;
        }
        int number = now.ingredients;
        if (number >= INGREDIENTS) {
            return TOO_MANY;
        }
        history.record(now);
        now.larder[number].begin(days);
        now.ingredients = number + 1;
        return number;
    }

    public int tin(int ingredient, int size, int price) {
        if (!now.hasIngredient(ingredient)) {
            return NO_SUCH;
        }
        if (!isWithin(size, LEAST_SIZE, MOST_SIZE) || !isWithin(price, 1, MOST_PRICE)) {
            return BAD_VALUE;
        }
        Ingredient of = now.larder[ingredient];
        if (of.kinds >= KINDS) {
            return TOO_MANY;
        }
        if (of.hasSize(size)) {
            return NOT_POSSIBLE;
        }
        history.record(now);
        of.addKind(size, price);
        return of.kinds;
    }

    public int buyable(int ingredient, int is) {
        if (!now.hasIngredient(ingredient)) {
            return NO_SUCH;
        }
        if (!isWithin(is, 0, 1)) {
            return BAD_VALUE;
        }
        history.record(now);
        Ingredient of = now.larder[ingredient];
        boolean previous = of.canBeBought;
        of.canBeBought = is == 1;
        return asNumber(previous);
    }

    public int substitute(int ingredient, int other, int rate) {
        boolean gives = other != NONE;
        if (!now.hasIngredient(ingredient) || gives && !now.hasIngredient(other)) {
            return NO_SUCH;
        }
        if (gives && (other <= ingredient || !isWithin(rate, LEAST_RATE, MOST_RATE))) {
            return BAD_VALUE;
        }
        history.record(now);
        Ingredient of = now.larder[ingredient];
        int previous = of.replacedBy;
        of.replacedBy = other;
        of.rate = gives ? rate : NONE;
        return previous;
    }

    public int stock(int ingredient, int grams) {
        if (!now.hasIngredient(ingredient)) {
            return NO_SUCH;
        }
        if (!isWithin(grams, 1, MOST_STOCKED)) {
            return BAD_VALUE;
        }
        Ingredient of = now.larder[ingredient];
        int there = of.inPantry() + grams;
        if (there > MOST_GRAMS) {
            return NOT_POSSIBLE;
        }
        history.record(now);
        of.addLot(now.day, grams);
        of.stocked += grams;
        return there;
    }

    // ---- recipes, menus

    public int recipe() {
        if (reader.read() != NONE) {
            return BAD_TEXT;
        }
        int number = now.recipes;
        if (number >= RECIPES) {
            return TOO_MANY;
        }
        if (reader.found.namesFrom(now.ingredients)) {
            return NOT_POSSIBLE;
        }
        history.record(now);
        now.book[number].copyFrom(reader.found);
        now.recipes = number + 1;
        pad.length = 0;
        return number;
    }

    public int amount(int recipe, int ingredient, int grams) {
        if (!now.hasRecipe(recipe) || !now.hasIngredient(ingredient)) {
            return NO_SUCH;
        }
        if (!isWithin(grams, 0, MOST_AMOUNT)) {
            return BAD_VALUE;
        }
        history.record(now);
        int[] amounts = now.book[recipe].amounts;
        int previous = amounts[ingredient];
        amounts[ingredient] = grams;
        return previous;
    }

    public int menu(int recipe, int portions) {
        if (!now.hasRecipe(recipe)) {
            return NO_SUCH;
        }
        if (!isWithin(portions, 0, MOST_PORTIONS)) {
            return BAD_VALUE;
        }
        history.record(now);
        int previous = now.book[recipe].portions;
        now.book[recipe].portions = portions;
        return previous;
    }

    public int hands(int hands) {
        if (!isWithin(hands, 1, MOST_HANDS)) {
            return BAD_VALUE;
        }
        history.record(now);
        int previous = now.allHands;
        now.allHands = hands;
        return previous;
    }

    public int cook() {
        shopping.plan(now);
        if (!canBeCooked()) {
            return NOT_POSSIBLE;
        }
        history.record(now);
        shopping.carryOut(now);
        int price = shopping.allPrices();
        now.spent += price;
        now.cooked++;
        now.emptyMenu();
        return price;
    }

    public int pass(int days) {
        if (!isWithin(days, 1, MOST_PASSED_DAYS)) {
            return BAD_VALUE;
        }
        if (now.day + days > LAST_DAY) {
            return NOT_POSSIBLE;
        }
        history.record(now);
        return now.letPass(days);
    }

    // ---- what there is

    public int about(int ingredient, int what) {
        if (!now.hasIngredient(ingredient)) {
            return NO_SUCH;
        }
        Ingredient of = now.larder[ingredient];
        switch (what) {
            case 0: return of.keptDays;
            case 1: return asNumber(of.canBeBought);
            case 2: return of.kinds;
            case 3: return of.replacedBy;
            case 4: return of.rate;
            case 5: return of.inPantry();
            case 6: return of.lotsThere();
            case 7: return of.firstSpoilDay(now.day);
            case 8: return of.bought;
            case 9: return of.used;
            case 10: return of.thrownAway;
            case 11: return of.stocked;
            default: return BAD_VALUE;
        }
    }

    public int ofTin(int ingredient, int kind, int what) {
        if (!now.hasIngredient(ingredient) || !now.larder[ingredient].hasKind(kind)) {
            return NO_SUCH;
        }
        switch (what) {
            case 0: return now.larder[ingredient].sizes[kind];
            case 1: return now.larder[ingredient].prices[kind];
            case 2:
                shopping.plan(now);
                return shopping.tins[ingredient][kind];
            default: return BAD_VALUE;
        }
    }

    public int needs(int ingredient, int what) {
        if (!now.hasIngredient(ingredient)) {
            return NO_SUCH;
        }
        if (!isWithin(what, 0, 7)) {
            return BAD_VALUE;
        }
        shopping.plan(now);
        switch (what) {
            case 0: return shopping.needed[ingredient];
            case 1: return shopping.replacing[ingredient];
            case 2: return shopping.fromPantry[ingredient];
            case 3: return shopping.bought[ingredient];
            case 4: return shopping.leftOver[ingredient];
            case 5: return shopping.replaced[ingredient];
            case 6: return shopping.missing[ingredient];
            default: return shopping.price[ingredient];
        }
    }

    public int step(int recipe, int step, int what) {
        if (!now.hasRecipe(recipe) || !now.book[recipe].hasStep(step)) {
            return NO_SUCH;
        }
        Recipe of = now.book[recipe];
        switch (what) {
            case 0: return of.portions == 0 ? of.steps[step].duration : of.lasts(step);
            case 1: return of.steps[step].needsHands;
            case 2: return of.steps[step].before;
            case 3: return asNumber(of.steps[step].grows);
            case 4: return of.portions == 0 ? NONE : tailInMenu(recipe, step);
            case 5: return of.portions == 0 ? NONE : beginInMenu(recipe, step);
            default: return BAD_VALUE;
        }
    }

    public int ofRecipe(int recipe, int what) {
        if (!now.hasRecipe(recipe)) {
            return NO_SUCH;
        }
        Recipe of = now.book[recipe];
        switch (what) {
            case 0: return of.basePortions;
            case 1: return of.stepCount;
            case 2: return of.portions;
            default: return isWithin(what - 3, 0, INGREDIENTS - 1) ? of.amounts[what - 3] : BAD_VALUE;
        }
    }

    public int count(int what) {
        switch (what) {
            case 0: return now.day;
            case 1: return now.ingredients;
            case 2: return now.recipes;
            case 3: return now.allHands;
            case 4: case 5: case 6: case 7:
                shopping.plan(now);
                return ofShopping(what);
            case 8: case 9: case 10:
                schedule.gather(now);
                return ofSchedule(what);
            case 11: return now.spent;
            case 12: return now.cooked;
            case 13: return pad.length;
            case 14: return history.kept;
            default: return BAD_VALUE;
        }
    }

    // ---- what if; nothing changes

    public int bestPortions(int recipe, int least, int most) {
        if (!now.hasRecipe(recipe)) {
            return NO_SUCH;
        }
        if (!isWithin(least, 1, MOST_PORTIONS) || !isWithin(most, least, MOST_PORTIONS)) {
            return BAD_VALUE;
        }
        Recipe of = now.book[recipe];
        int before = of.portions;
        int best = NONE;
        int leastLeft = 0;
        for (int portions = least; portions <= most; portions++) {
            of.portions = portions;
            shopping.plan(now);
            int left = shopping.allLeftOver();
            if (shopping.missingSet() == 0 && (best == NONE || left <= leastLeft)) {
                best = portions;
                leastLeft = left;
            }
        }
        of.portions = before;
        return best;
    }

    public int fewestHands(int time) {
        if (!isWithin(time, 0, LAST_TIME)) {
            return BAD_VALUE;
        }
        schedule.gather(now);
        for (int hands = 1; hands <= MOST_HANDS; hands++) {
            schedule.run(hands);
            int end = schedule.end();
            if (end != NONE && end <= time) {
                return hands;
            }
        }
        return NONE;
    }

    public int ifBuyable(int ingredient, int is) {
        if (!now.hasIngredient(ingredient)) {
            return NO_SUCH;
        }
        if (!isWithin(is, 0, 1)) {
            return BAD_VALUE;
        }
        Ingredient of = now.larder[ingredient];
        boolean before = of.canBeBought;
        of.canBeBought = is == 1;
        shopping.plan(now);
        of.canBeBought = before;
        return shopping.missingSet() == 0 ? shopping.allPrices() : NONE;
    }

    // ---- texts

    public int put(long characters) {
        int length = lengthOf(characters);
        if (length == 0) {
            return BAD_VALUE;
        }
        if (pad.length + length > PAD_LENGTH) {
            return TOO_MANY;
        }
        pad.append(characters, length);
        return pad.length;
    }

    public int wipe() {
        int previous = pad.length;
        pad.length = 0;
        return previous;
    }

    public int fault() {
        return reader.read();
    }

    // ---- undo, saving

    public int undo() {
        if (history.kept == 0) {
            return NOT_POSSIBLE;
        }
        history.giveBack(now);
        return history.kept;
    }

    public int save(int slot) {
        if (!isWithin(slot, 0, SLOTS - 1)) {
            return BAD_VALUE;
        }
        slots[slot].copyFrom(now);
        isSaved[slot] = true;
        return now.day;
    }

    public int restore(int slot) {
        if (!isWithin(slot, 0, SLOTS - 1)) {
            return BAD_VALUE;
        }
        if (!isSaved[slot]) {
            return NOT_POSSIBLE;
        }
        history.record(now);
        now.copyFrom(slots[slot]);
        return now.day;
    }

    private boolean canBeCooked() {
        return shopping.missingSet() == 0 && now.hasPortions();
    }

    private int tailInMenu(int recipe, int step) {
        schedule.gather(now);
        return schedule.tails[recipe * STEPS + step];
    }

    private int beginInMenu(int recipe, int step) {
        schedule.gather(now);
        schedule.run(now.allHands);
        return schedule.begins[recipe * STEPS + step];
    }

    private int ofShopping(int what) {
        switch (what) {
            case 4: return shopping.allPrices();
            case 5: return shopping.allLeftOver();
            case 6: return shopping.missingSet();
            default: return asNumber(canBeCooked());
        }
    }

    private int ofSchedule(int what) {
        switch (what) {
            case 8:
                schedule.run(now.allHands);
                return schedule.end();
            case 9: return schedule.bound(now.allHands);
            default: return schedule.work;
        }
    }

    /** Answers how many characters the number gives, 0 if it is not one that put takes. */
    private static int lengthOf(long characters) {
        long rest = characters;
        int length = 0;
        while (length < PUT_LENGTH && rest != 0) {
            if (!isWithin((int) (rest & 255), 33, 126)) {
                return 0;
            }
            rest >>>= 8;
            length++;
        }
        return length;
    }

    private static boolean isWithin(int number, int least, int most) {
        return number >= least && number <= most;
    }

    private static int asNumber(boolean is) {
        return is ? 1 : 0;
    }

    private static int roundedUp(int number, int divisor) {
        return divisor <= 0 ? 0 : (number + divisor - 1) / divisor;
    }

    /** An ingredient with its tins, its substitute, its lots in the pantry, and its accounts. */
    private static final class Ingredient {
        int keptDays;
        boolean canBeBought;
        int kinds;
        final int[] sizes = new int[KINDS];
        final int[] prices = new int[KINDS];
        int replacedBy;
        int rate;
        // All lots spoil within the 30 days behind today, so the rest of a day by 30 tells its lot.
        final int[] lots = new int[MOST_KEPT_DAYS];
        int bought;
        int used;
        int thrownAway;
        int stocked;

        void begin(int days) {
            keptDays = days;
            canBeBought = true;
            kinds = 0;
            replacedBy = NONE;
            rate = NONE;
            for (int place = 0; place < MOST_KEPT_DAYS; place++) {
                lots[place] = 0;
            }
            bought = 0;
            used = 0;
            thrownAway = 0;
            stocked = 0;
        }

        void copyFrom(Ingredient other) {
            keptDays = other.keptDays;
            canBeBought = other.canBeBought;
            kinds = other.kinds;
            System.arraycopy(other.sizes, 0, sizes, 0, KINDS);
            System.arraycopy(other.prices, 0, prices, 0, KINDS);
            replacedBy = other.replacedBy;
            rate = other.rate;
            System.arraycopy(other.lots, 0, lots, 0, MOST_KEPT_DAYS);
            bought = other.bought;
            used = other.used;
            thrownAway = other.thrownAway;
            stocked = other.stocked;
        }

        boolean hasKind(int kind) {
            return kind >= 0 && kind < kinds && kind < KINDS;
        }

        boolean hasSize(int size) {
            for (int kind = 0; kind < kinds && kind < KINDS; kind++) {
                if (sizes[kind] == size) {
                    return true;
                }
            }
            return false;
        }

        void addKind(int size, int price) {
            if (kinds < 0 || kinds >= KINDS) {
                return;
            }
            sizes[kinds] = size;
            prices[kinds] = price;
            kinds++;
        }

        int inPantry() {
            int grams = 0;
            for (int lot : lots) {
                grams += lot;
            }
            return grams;
        }

        int lotsThere() {
            int there = 0;
            for (int lot : lots) {
                if (lot > 0) {
                    there++;
                }
            }
            return there;
        }

        int firstSpoilDay(int today) {
            for (int ahead = 1; ahead <= MOST_KEPT_DAYS; ahead++) {
                if (lots[placeOf(today + ahead)] > 0) {
                    return today + ahead;
                }
            }
            return NONE;
        }

        void addLot(int today, int grams) {
            lots[placeOf(today + keptDays)] += grams;
        }

        void takeFromLots(int today, int grams) {
            int left = grams;
            for (int ahead = 1; ahead <= MOST_KEPT_DAYS; ahead++) {
                int place = placeOf(today + ahead);
                int taken = Math.min(left, lots[place]);
                lots[place] -= taken;
                left -= taken;
            }
        }

        int throwAway(int day) {
            int place = placeOf(day);
            int grams = lots[place];
            lots[place] = 0;
            thrownAway += grams;
            return grams;
        }

        private static int placeOf(int day) {
            return Math.floorMod(day, MOST_KEPT_DAYS);
        }
    }

    /** A step of a recipe. */
    private static final class Step {
        int duration;
        int needsHands;
        int before;
        boolean grows;

        void copyFrom(Step other) {
            duration = other.duration;
            needsHands = other.needsHands;
            before = other.before;
            grows = other.grows;
        }
    }

    /** A recipe with its portions in the menu. */
    private static final class Recipe {
        int basePortions;
        int portions;
        int stepCount;
        final int[] amounts = new int[INGREDIENTS];
        final Step[] steps = new Step[STEPS];

        Recipe() {
            for (int step = 0; step < STEPS; step++) {
                steps[step] = new Step();
            }
        }

        void clear() {
            basePortions = 0;
            portions = 0;
            stepCount = 0;
            for (int ingredient = 0; ingredient < INGREDIENTS; ingredient++) {
                amounts[ingredient] = 0;
            }
        }

        void copyFrom(Recipe other) {
            basePortions = other.basePortions;
            portions = other.portions;
            stepCount = other.stepCount;
            System.arraycopy(other.amounts, 0, amounts, 0, INGREDIENTS);
            for (int step = 0; step < STEPS; step++) {
                steps[step].copyFrom(other.steps[step]);
            }
        }

        boolean hasStep(int step) {
            return step >= 0 && step < stepCount && step < STEPS;
        }

        /** Tells whether it needs something of an ingredient of this number or of a greater one. */
        boolean namesFrom(int first) {
            for (int ingredient = Math.max(0, first); ingredient < INGREDIENTS; ingredient++) {
                if (amounts[ingredient] > 0) {
                    return true;
                }
            }
            return false;
        }

        int scaled(int number) {
            return roundedUp(number * portions, basePortions);
        }

        int lasts(int step) {
            if (!hasStep(step)) {
                return 0;
            }
            return steps[step].grows ? scaled(steps[step].duration) : steps[step].duration;
        }
    }

    /** All that undo and the slots bring back; rows behind the last ingredient and recipe are all 0. */
    private static final class State {
        int day;
        int allHands = FIRST_HANDS;
        int spent;
        int cooked;
        int ingredients;
        int recipes;
        final Ingredient[] larder = new Ingredient[INGREDIENTS];
        final Recipe[] book = new Recipe[RECIPES];

        State() {
            for (int ingredient = 0; ingredient < INGREDIENTS; ingredient++) {
                larder[ingredient] = new Ingredient();
            }
            for (int recipe = 0; recipe < RECIPES; recipe++) {
                book[recipe] = new Recipe();
            }
        }

        void copyFrom(State other) {
            day = other.day;
            allHands = other.allHands;
            spent = other.spent;
            cooked = other.cooked;
            ingredients = other.ingredients;
            recipes = other.recipes;
            for (int ingredient = 0; ingredient < INGREDIENTS; ingredient++) {
                larder[ingredient].copyFrom(other.larder[ingredient]);
            }
            for (int recipe = 0; recipe < RECIPES; recipe++) {
                book[recipe].copyFrom(other.book[recipe]);
            }
        }

        boolean hasIngredient(int ingredient) {
            return ingredient >= 0 && ingredient < ingredients && ingredient < INGREDIENTS;
        }

        boolean hasRecipe(int recipe) {
            return recipe >= 0 && recipe < recipes && recipe < RECIPES;
        }

        boolean hasPortions() {
            for (Recipe recipe : book) {
                if (recipe.portions > 0) {
                    return true;
                }
            }
            return false;
        }

        /** Answers what the recipes themselves need of an ingredient, for the portions of the menu. */
        int neededByRecipes(int ingredient) {
            int grams = 0;
            if (hasIngredient(ingredient)) {
                for (Recipe recipe : book) {
                    grams += recipe.scaled(recipe.amounts[ingredient]);
                }
            }
            return grams;
        }

        void emptyMenu() {
            for (Recipe recipe : book) {
                recipe.portions = 0;
            }
        }

        int letPass(int days) {
            int grams = 0;
            for (int passed = 0; passed < days; passed++) {
                day++;
                for (Ingredient ingredient : larder) {
                    grams += ingredient.throwAway(day);
                }
            }
            return grams;
        }
    }

    /** The states before the latest changes, in a ring. */
    private static final class History {
        int kept;
        private int latest = HISTORY - 1;
        private final State[] states = new State[HISTORY];

        History() {
            for (int place = 0; place < HISTORY; place++) {
                states[place] = new State();
            }
        }

        void record(State state) {
            latest = Math.floorMod(latest + 1, HISTORY);
            states[latest].copyFrom(state);
            kept = Math.min(kept + 1, HISTORY);
        }

        void giveBack(State state) {
            if (kept == 0) {
                return;
            }
            state.copyFrom(states[Math.floorMod(latest, HISTORY)]);
            latest = Math.floorMod(latest - 1, HISTORY);
            kept--;
        }
    }

    /** What the menu needs of each ingredient, and where it comes from. */
    private static final class Shopping {
        final int[] needed = new int[INGREDIENTS];
        final int[] replacing = new int[INGREDIENTS];
        final int[] fromPantry = new int[INGREDIENTS];
        final int[] bought = new int[INGREDIENTS];
        final int[] leftOver = new int[INGREDIENTS];
        final int[] replaced = new int[INGREDIENTS];
        final int[] missing = new int[INGREDIENTS];
        final int[] price = new int[INGREDIENTS];
        final int[][] tins = new int[INGREDIENTS][KINDS];
        private final TinSearch search = new TinSearch();

        void plan(State state) {
            for (int ingredient = 0; ingredient < INGREDIENTS; ingredient++) {
                clear(ingredient);
                needed[ingredient] = state.neededByRecipes(ingredient);
            }
            // A substitute is a later ingredient: when it is looked at, all that it replaces is known.
            for (int ingredient = 0; ingredient < INGREDIENTS; ingredient++) {
                planOne(state, ingredient);
            }
        }

        private void clear(int ingredient) {
            replacing[ingredient] = 0;
            fromPantry[ingredient] = 0;
            bought[ingredient] = 0;
            leftOver[ingredient] = 0;
            replaced[ingredient] = 0;
            missing[ingredient] = 0;
            price[ingredient] = 0;
            for (int kind = 0; kind < KINDS; kind++) {
                tins[ingredient][kind] = 0;
            }
        }

        private void planOne(State state, int ingredient) {
            Ingredient of = state.larder[ingredient];
            fromPantry[ingredient] = Math.min(needed[ingredient], of.inPantry());
            int left = needed[ingredient] - fromPantry[ingredient];
            if (left <= 0) {
                return;
            }
            if (of.canBeBought && of.kinds > 0) {
                buy(of, ingredient, left);
            } else if (!replace(state, ingredient, left)) {
                missing[ingredient] = left;
            }
        }

        private void buy(Ingredient of, int ingredient, int left) {
            search.rank(of);
            search.find(left);
            bought[ingredient] = search.bestWeight;
            leftOver[ingredient] = search.bestWeight - left;
            price[ingredient] = search.bestPrice;
            for (int kind = 0; kind < KINDS; kind++) {
                tins[ingredient][kind] = search.best[kind];
            }
        }

        private boolean replace(State state, int ingredient, int left) {
            int other = state.larder[ingredient].replacedBy;
            if (!state.hasIngredient(other)) {
                return false;
            }
            int more = roundedUp(left * state.larder[ingredient].rate, 100);
            if (needed[other] + more > MOST_GRAMS) {
                return false;
            }
            replaced[ingredient] = left;
            replacing[other] += more;
            needed[other] += more;
            return true;
        }

        /** Takes what was planned from the pantry, and puts into it what is left of the tins. */
        void carryOut(State state) {
            for (int ingredient = 0; ingredient < INGREDIENTS; ingredient++) {
                Ingredient of = state.larder[ingredient];
                of.takeFromLots(state.day, fromPantry[ingredient]);
                of.addLot(state.day, leftOver[ingredient]);
                of.bought += bought[ingredient];
                of.used += fromPantry[ingredient] + bought[ingredient] - leftOver[ingredient];
            }
        }

        int allPrices() {
            return sum(price);
        }

        int allLeftOver() {
            return sum(leftOver);
        }

        int missingSet() {
            int set = 0;
            for (int ingredient = 0; ingredient < INGREDIENTS; ingredient++) {
                if (missing[ingredient] > 0) {
                    set |= 1 << ingredient;
                }
            }
            return set;
        }

        private static int sum(int[] numbers) {
            int sum = 0;
            for (int number : numbers) {
                sum += number;
            }
            return sum;
        }
    }

    /**
     * Finds the cheapest tins of an ingredient that have a weight. The kinds are ranked, the cheapest
     * by the gram first, of equal ones the greater; the numbers of the second and the third kind are
     * tried, and the first kind fills up.
     */
    private static final class TinSearch {
        int bestPrice;
        int bestWeight;
        final int[] best = new int[KINDS];
        private int bestTins;
        private boolean isFound;
        private final int[] tried = new int[KINDS];
        private final int[] ranked = new int[KINDS];
        private final int[] size = new int[KINDS];
        private final int[] price = new int[KINDS];
        private final int[] most = new int[KINDS];

        void rank(Ingredient of) {
            for (int rank = 0; rank < KINDS; rank++) {
                int place = rank;
                for (; place > 0 && of.hasKind(rank) && isAhead(of, rank, ranked[place - 1]); place--) {
                    ranked[place] = ranked[place - 1];
                }
                ranked[place] = rank;
            }
            for (int rank = 0; rank < KINDS; rank++) {
                boolean isThere = of.hasKind(ranked[rank]);
                size[rank] = isThere ? of.sizes[ranked[rank]] : 0;
                price[rank] = isThere ? of.prices[ranked[rank]] : 0;
                most[rank] = isThere ? mostOf(rank) : 0;
            }
        }

        /** Finds the best tins of the ingredient that was ranked last. */
        void find(int weight) {
            isFound = false;
            for (int third = 0; third <= most[2]; third++) {
                if (isTooDear(0, third, weight)) {
                    break;
                }
                for (int second = 0; second <= most[1]; second++) {
                    if (isTooDear(second, third, weight)) {
                        break;
                    }
                    offer(second, third, weight);
                }
            }
        }

        private static boolean isAhead(Ingredient of, int kind, int other) {
            if (!of.hasKind(kind) || !of.hasKind(other)) {
                return of.hasKind(kind);
            }
            int cost = of.prices[kind] * of.sizes[other];
            int otherCost = of.prices[other] * of.sizes[kind];
            return cost < otherCost || cost == otherCost && of.sizes[kind] > of.sizes[other];
        }

        /**
         * So many tins of a kind that together weigh as much as some tins of a kind ranked ahead are
         * better replaced by those: they cost less, or as much and are fewer.
         */
        private int mostOf(int rank) {
            int fewest = MOST_SIZE;
            for (int ahead = 0; ahead < rank; ahead++) {
                int common = commonDivisor(size[ahead], size[rank]);
                if (common > 0) {
                    fewest = Math.min(fewest, size[ahead] / common - 1);
                }
            }
            return fewest;
        }

        private static int commonDivisor(int one, int other) {
            int a = one;
            int b = other;
            for (int turn = 0; turn < MOST_SIZE && b > 0; turn++) {
                int rest = a % b;
                a = b;
                b = rest;
            }
            return a;
        }

        /**
         * Tells whether the price is above the best one even if the rest could be had by the gram, as
         * cheap as in the first kind; so it is with still more tins of the second or third kind, then.
         */
        private boolean isTooDear(int second, int third, int weight) {
            if (!isFound) {
                return false;
            }
            long cost = second * price[1] + third * price[2];
            long rest = Math.max(0, weight - second * size[1] - third * size[2]);
            return cost * size[0] + rest * price[0] > (long) bestPrice * size[0];
        }

        private void offer(int second, int third, int weight) {
            int rest = Math.max(0, weight - second * size[1] - third * size[2]);
            int first = roundedUp(rest, size[0]);
            putTried(0, first);
            putTried(1, second);
            putTried(2, third);
            int cost = first * price[0] + second * price[1] + third * price[2];
            int grams = first * size[0] + second * size[1] + third * size[2];
            int tins = first + second + third;
            if (!isFound || isBetter(cost, grams, tins)) {
                isFound = true;
                bestPrice = cost;
                bestWeight = grams;
                bestTins = tins;
                System.arraycopy(tried, 0, best, 0, KINDS);
            }
        }

        private void putTried(int rank, int tins) {
            int kind = ranked[rank];
            if (kind >= 0 && kind < KINDS) {
                tried[kind] = tins;
            }
        }

        private boolean isBetter(int cost, int grams, int tins) {
            if (cost != bestPrice) {
                return cost < bestPrice;
            }
            if (grams != bestWeight) {
                return grams < bestWeight;
            }
            if (tins != bestTins) {
                return tins < bestTins;
            }
            return tried[0] != best[0] ? tried[0] < best[0] : tried[1] < best[1];
        }
    }

    /** When the steps of the menu begin and end; a step's place is its recipe * 8 + its number. */
    private static final class Schedule {
        final int[] tails = new int[ALL_STEPS];
        final int[] begins = new int[ALL_STEPS];
        int work;
        private final int[] durations = new int[ALL_STEPS];
        private final int[] needsHands = new int[ALL_STEPS];
        private final int[] before = new int[ALL_STEPS];
        private final int[] order = new int[ALL_STEPS];
        private int steps;
        private int greatestTail;

        void gather(State state) {
            steps = 0;
            work = 0;
            greatestTail = 0;
            for (int recipe = 0; recipe < RECIPES; recipe++) {
                if (state.book[recipe].portions > 0) {
                    gatherSteps(state.book[recipe], recipe * STEPS);
                }
            }
        }

        private void gatherSteps(Recipe of, int first) {
            int count = Math.min(of.stepCount, STEPS);
            for (int step = 0; step < count; step++) {
                durations[first + step] = of.lasts(step);
                needsHands[first + step] = of.steps[step].needsHands;
                before[first + step] = of.steps[step].before;
                work += durations[first + step] * needsHands[first + step];
            }
            // Only later steps name a step, so their tails have to be known first.
            for (int step = count - 1; step >= 0; step--) {
                tails[first + step] = durations[first + step] + longestBehind(first, step, count);
                greatestTail = Math.max(greatestTail, tails[first + step]);
            }
            for (int step = 0; step < count; step++) {
                insert(first + step);
            }
        }

        private int longestBehind(int first, int step, int count) {
            int longest = 0;
            for (int later = step + 1; later < count; later++) {
                if ((before[first + later] >> step & 1) == 1) {
                    longest = Math.max(longest, tails[first + later]);
                }
            }
            return longest;
        }

        /** Steps come in ascending order, so one goes behind all whose tails are as great. */
        private void insert(int place) {
            if (steps < 0 || steps >= ALL_STEPS) {
                return;
            }
            int at = steps;
            for (; at > 0 && tails[order[at - 1]] < tails[place]; at--) {
                order[at] = order[at - 1];
            }
            order[at] = place;
            steps++;
        }

        void run(int hands) {
            for (int place = 0; place < ALL_STEPS; place++) {
                begins[place] = NONE;
            }
            int time = 0;
            // Something begins only at 0 and when a step ends, and each step ends once.
            for (int turn = 0; turn <= ALL_STEPS && time != NONE; turn++) {
                beginAt(time, hands);
                time = nextEnd(time);
            }
        }

        private void beginAt(int time, int hands) {
            int free = hands - busyHands(time);
            for (int at = 0; at < steps && at < ALL_STEPS; at++) {
                int place = order[at];
                if (begins[place] == NONE && needsHands[place] <= free && isReady(place, time)) {
                    begins[place] = time;
                    free -= needsHands[place];
                }
            }
        }

        private int busyHands(int time) {
            int busy = 0;
            for (int at = 0; at < steps && at < ALL_STEPS; at++) {
                int place = order[at];
                if (begins[place] != NONE && begins[place] + durations[place] > time) {
                    busy += needsHands[place];
                }
            }
            return busy;
        }

        private boolean isReady(int place, int time) {
            int first = place - Math.floorMod(place, STEPS);
            for (int step = 0; step < STEPS; step++) {
                if ((before[place] >> step & 1) == 1 && !hasEnded(first + step, time)) {
                    return false;
                }
            }
            return true;
        }

        private boolean hasEnded(int place, int time) {
            return begins[place] != NONE && begins[place] + durations[place] <= time;
        }

        /** Answers the first time behind this one at which a step ends, NONE without one. */
        private int nextEnd(int time) {
            int next = NONE;
            for (int at = 0; at < steps && at < ALL_STEPS; at++) {
                int place = order[at];
                int end = begins[place] + durations[place];
                if (begins[place] != NONE && end > time && (next == NONE || end < next)) {
                    next = end;
                }
            }
            return next;
        }

        /** Answers when all steps have ended, NONE if one never begins. */
        int end() {
            int last = 0;
            for (int at = 0; at < steps && at < ALL_STEPS; at++) {
                int place = order[at];
                if (begins[place] == NONE) {
                    return NONE;
                }
                last = Math.max(last, begins[place] + durations[place]);
            }
            return last;
        }

        int bound(int hands) {
            return Math.max(greatestTail, roundedUp(work, hands));
        }
    }

    /** The text from which recipes are read. */
    private static final class Pad {
        int length;
        private final char[] text = new char[PAD_LENGTH];

        /** Answers the character at a place, 0 behind the end. */
        char at(int place) {
            return place >= 0 && place < length && place < PAD_LENGTH ? text[place] : 0;
        }

        void append(long characters, int howMany) {
            for (int left = howMany - 1; left >= 0 && length >= 0 && length < PAD_LENGTH; left--) {
                text[length] = (char) (characters >>> 8 * left & 255);
                length++;
            }
        }
    }

    /** Reads the recipe of the pad, from left to right, up to its fault. */
    private static final class Reader {
        final Recipe found = new Recipe();
        final Pad pad = new Pad();
        private int place;
        private boolean isGood;

        /** Answers the fault of the text, NONE if there is none. */
        int read() {
            place = 0;
            isGood = true;
            found.clear();
            found.basePortions = readNumber(MOST_PORTIONS);
            for (int name = 0; name < INGREDIENTS && isGood && nameHere() >= 0; name++) {
                readAmount(nameHere());
            }
            for (int step = 0; step < STEPS && isGood && pad.at(place) == ';'; step++) {
                place++;
                readStep(step);
            }
            return isGood && place == pad.length ? NONE : place;
        }

        private int readNumber(int most) {
            int number = readDigit(1, 9);
            for (int digits = 1; digits < PAD_LENGTH && isGood && digitHere() >= 0; digits++) {
                // A digit that makes the number too great cannot stand here.
                number = number * 10 + readDigit(0, Math.min(9, most - number * 10));
            }
            return number;
        }

        /** Reads a digit from least to most; without one there is a fault here. */
        private int readDigit(int least, int most) {
            int digit = digitHere();
            if (!isGood || digit < least || digit > most) {
                isGood = false;
                return 0;
            }
            place++;
            return digit;
        }

        private int digitHere() {
            char here = pad.at(place);
            return here >= '0' && here <= '9' ? here - '0' : NONE;
        }

        /** Answers the ingredient that is named here and was not named before, NONE without one. */
        private int nameHere() {
            int name = pad.at(place) - 'a';
            return name >= 0 && name < INGREDIENTS && found.amounts[name] == 0 ? name : NONE;
        }

        private void readAmount(int name) {
            place++;
            int grams = readNumber(MOST_AMOUNT);
            if (name >= 0 && name < INGREDIENTS) {
                found.amounts[name] = grams;
            }
        }

        private void readStep(int step) {
            Step read = found.steps[step];
            read.duration = readNumber(MOST_DURATION);
            readSign('/');
            read.needsHands = readDigit(0, MOST_STEP_HANDS);
            read.grows = isGood && pad.at(place) == '*';
            if (read.grows) {
                place++;
            }
            read.before = 0;
            for (int named = 0; named < STEPS && isGood && pad.at(place) == '@'; named++) {
                place++;
                read.before |= readStepBefore(step, read.before);
            }
            found.stepCount = step + 1;
        }

        private void readSign(char sign) {
            if (isGood && pad.at(place) == sign) {
                place++;
            } else {
                isGood = false;
            }
        }

        /** Reads the name of an earlier step that is not in the set, and answers the set with it alone. */
        private int readStepBefore(int step, int set) {
            int named = digitHere();
            if (named < 0 || named >= step || (set >> named & 1) == 1) {
                isGood = false;
                return 0;
            }
            place++;
            return 1 << named;
        }
    }
}
