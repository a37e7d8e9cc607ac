import java.util.Random;

/** All promises: runs of up to 512 calls, chosen by a fixed seed, to the program and to the model. */
public final class ModelTest {
    private static final int RUNS = 400;
    private static final int CALLS = 512;
    // A text that is written takes the most: it is wiped, put, looked at and added.
    private static final int MOST_AT_ONCE = 15;

    private final Random random;
    private final TinKitchen kitchen = new TinKitchen();
    private final Model model = new Model();
    private final int run;
    private final boolean isLarge;
    // All tins cost the same by the gram, so that many ways to buy are as good.
    private final boolean isEven;
    private String text = "";
    private int calls;

    private ModelTest(int run) {
        this.run = run;
        random = new Random(run);
        isLarge = run % 4 == 0;
        isEven = run % 4 == 1;
    }

    public static void main(String[] arguments) {
        for (int run = 0; run < RUNS; run++) {
            new ModelTest(run).play();
        }
        Check.end("ModelTest");
    }

    private void play() {
        while (calls + MOST_AT_ONCE <= CALLS) {
            if (calls < 100 ? random.nextInt(5) > 0 : random.nextInt(12) == 0) {
                build();
            } else if (random.nextInt(3) == 0) {
                change();
            } else {
                ask();
            }
        }
    }

    private void due(String call, int want, int got) {
        calls++;
        Check.due("run " + run + ": " + call, want, got);
    }

    /** From least to most, now and then a bit or far out of it. */
    private int from(int least, int most) {
        int chance = random.nextInt(60);
        if (chance == 0) {
            return random.nextBoolean() ? least - 1 : most + 1;
        }
        if (chance == 1) {
            int[] far = {Integer.MIN_VALUE, Integer.MAX_VALUE, -6, -1, 0, 1000000};
            return far[random.nextInt(far.length)];
        }
        if (chance < 8) {
            return random.nextBoolean() ? least : most;
        }
        return least + random.nextInt(most - least + 1);
    }

    private int ingredient() {
        return from(0, Math.max(0, model.count(1) - 1));
    }

    private int aRecipe() {
        return from(0, Math.max(0, model.count(2) - 1));
    }

    private void build() {
        switch (random.nextInt(8)) {
            case 0: {
                int days = from(1, 30);
                due("ingredient(" + days + ")", model.ingredient(days), kitchen.ingredient(days));
                break;
            }
            case 1: case 2: {
                int of = ingredient();
                int size = isEven || random.nextBoolean() ? from(1, isEven ? 6 : 20) * 50 : from(50, random.nextBoolean() ? 2000 : 60);
                int price = isEven || random.nextBoolean() ? size / 10 : from(1, random.nextBoolean() ? 999 : 20);
                due("tin(" + of + ", " + size + ", " + price + ")", model.tin(of, size, price), kitchen.tin(of, size, price));
                break;
            }
            case 3: {
                int of = ingredient();
                int other = random.nextInt(8) == 0 ? TinKitchen.NONE : from(Math.max(0, Math.min(of + 1, 7)), 7);
                int rate = isLarge ? from(150, 200) : from(10, 200);
                due("substitute(" + of + ", " + other + ", " + rate + ")",
                    model.substitute(of, other, rate), kitchen.substitute(of, other, rate));
                break;
            }
            case 4:
                if (random.nextInt(3) == 0) {
                    due("recipe() of " + text, model.recipe(), kitchen.recipe());
                }
                break;
            default:
                write();
        }
    }

    private void write() {
        due("wipe()", model.wipe(), kitchen.wipe());
        text = aText();
        for (int at = 0; at < text.length(); at += 8) {
            put(Check.number(text.substring(at, Math.min(text.length(), at + 8))));
        }
        due("fault() of " + text, model.fault(), kitchen.fault());
        due("recipe() of " + text, model.recipe(), kitchen.recipe());
    }

    private void put(long characters) {
        due("put(" + characters + ")", model.put(characters), kitchen.put(characters));
    }

    /** A recipe, now and then with something put in, left out or changed. */
    private String aText() {
        StringBuilder made = new StringBuilder().append(isLarge ? 1 : 1 + random.nextInt(20));
        int names = Math.max(1, model.count(1));
        for (int name = 0; name < names; name++) {
            if (random.nextBoolean()) {
                made.append((char) ('a' + name)).append(isLarge ? 500 : 1 + random.nextInt(500));
            }
        }
        int steps = random.nextInt(9);
        int most = random.nextInt(8) == 0 ? 240 : 30;
        for (int step = 0; step < steps; step++) {
            made.append(';').append(1 + random.nextInt(most)).append('/').append(random.nextInt(4));
            made.append(random.nextInt(3) == 0 ? "*" : "");
            for (int before = 0; before < step; before++) {
                made.append(random.nextInt(4) == 0 ? "@" + before : "");
            }
        }
        if (random.nextInt(3) == 0) {
            String signs = "0123456789;/*@abhi~!";
            int at = random.nextInt(made.length());
            String sign = "" + signs.charAt(random.nextInt(signs.length()));
            int length = random.nextInt(2);
            made.replace(at, Math.min(made.length(), at + length), random.nextInt(3) == 0 ? "" : sign);
        }
        return made.toString();
    }

    private void change() {
        int of = ingredient();
        int dish = aRecipe();
        int portions = isLarge ? 20 : from(0, 20);
        switch (random.nextInt(13)) {
            case 0: {
                int is = from(0, 1);
                due("buyable(" + of + ", " + is + ")", model.buyable(of, is), kitchen.buyable(of, is));
                break;
            }
            case 1: {
                int grams = random.nextInt(3) == 0 ? from(1, 20000) : from(1, 1000);
                due("stock(" + of + ", " + grams + ")", model.stock(of, grams), kitchen.stock(of, grams));
                break;
            }
            case 2: {
                int grams = random.nextBoolean() ? 500 : from(0, 500);
                due("amount(" + dish + ", " + of + ", " + grams + ")",
                    model.amount(dish, of, grams), kitchen.amount(dish, of, grams));
                break;
            }
            case 3: {
                int hands = from(1, 6);
                due("hands(" + hands + ")", model.hands(hands), kitchen.hands(hands));
                break;
            }
            case 4: case 5:
                due("cook()", model.cook(), kitchen.cook());
                break;
            case 6: {
                int days = random.nextInt(4) == 0 ? from(1, 60) : from(1, 5);
                due("pass(" + days + ")", model.pass(days), kitchen.pass(days));
                break;
            }
            case 7:
                due("undo()", model.undo(), kitchen.undo());
                break;
            case 8: {
                int slot = from(0, 1);
                due("save(" + slot + ")", model.save(slot), kitchen.save(slot));
                break;
            }
            case 9: {
                int slot = from(0, 1);
                due("restore(" + slot + ")", model.restore(slot), kitchen.restore(slot));
                break;
            }
            case 10:
                put(random.nextBoolean() ? random.nextLong() : random.nextLong() >>> 8 * random.nextInt(8));
                break;
            default:
                due("menu(" + dish + ", " + portions + ")", model.menu(dish, portions), kitchen.menu(dish, portions));
        }
    }

    private void ask() {
        int of = ingredient();
        int dish = aRecipe();
        switch (random.nextInt(9)) {
            case 0: {
                int what = from(0, 11);
                due("about(" + of + ", " + what + ")", model.about(of, what), kitchen.about(of, what));
                break;
            }
            case 1: {
                int kind = from(0, 2);
                int what = from(0, 2);
                due("ofTin(" + of + ", " + kind + ", " + what + ")", model.ofTin(of, kind, what), kitchen.ofTin(of, kind, what));
                break;
            }
            case 2: {
                int what = from(0, 7);
                due("needs(" + of + ", " + what + ")", model.needs(of, what), kitchen.needs(of, what));
                break;
            }
            case 3: {
                int step = from(0, 7);
                int what = from(0, 5);
                due("step(" + dish + ", " + step + ", " + what + ")", model.step(dish, step, what), kitchen.step(dish, step, what));
                break;
            }
            case 4: {
                int what = from(0, 10);
                due("ofRecipe(" + dish + ", " + what + ")", model.ofRecipe(dish, what), kitchen.ofRecipe(dish, what));
                break;
            }
            case 5: {
                int what = from(0, 14);
                due("count(" + what + ")", model.count(what), kitchen.count(what));
                break;
            }
            case 6: {
                int least = from(1, 20);
                int most = from(1, 20);
                due("bestPortions(" + dish + ", " + least + ", " + most + ")",
                    model.bestPortions(dish, least, most), kitchen.bestPortions(dish, least, most));
                break;
            }
            case 7: {
                int time = random.nextBoolean() ? from(0, 300) : from(0, 5000);
                due("fewestHands(" + time + ")", model.fewestHands(time), kitchen.fewestHands(time));
                break;
            }
            default: {
                int is = from(0, 1);
                due("ifBuyable(" + of + ", " + is + ")", model.ifBuyable(of, is), kitchen.ifBuyable(of, is));
            }
        }
    }
}
