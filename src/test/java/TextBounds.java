import java.util.function.Supplier;

/** The bounds of the texts, and of the promises 22 to 24: put, wipe, fault. */
final class TextBounds {
    private static final int BAD_VALUE = TinKitchen.BAD_VALUE;
    private static final int BAD_TEXT = TinKitchen.BAD_TEXT;
    private static final int TOO_MANY = TinKitchen.TOO_MANY;
    private static final int NONE = TinKitchen.NONE;
    private static final String EIGHT_STEPS = "1" + ";5/1".repeat(8);

    private TextBounds() {
    }

    static void run() {
        put();
        putErrors();
        putIsFull();
        wipe();
        fault();
        grammar();
        numbers();
        steps();
        twice();
        zeros();
        firstFault();
        end();
    }

    /** So many characters on the pad. */
    private static Supplier<TinKitchen> length(int length) {
        return () -> {
            TinKitchen kitchen = new TinKitchen();
            Check.write(kitchen, "1234567890".repeat(8).substring(0, length));
            return kitchen;
        };
    }

    private static void put() {
        Document.section("Promise 22");
        Document.sentence("Appends characters to the pad");
        TinKitchen kitchen = new TinKitchen();
        kitchen.put('1');
        kitchen.put('7');
        Check.due("17: fault()", NONE, kitchen.fault());
        kitchen.put('1');
        Check.due("171: fault()", 2, kitchen.fault());
        Document.sentence("its lowest 8 bits are the last character, the next 8 bits the one before, and so on");
        TinKitchen ordered = Kitchens.ingredients(3);
        ordered.put(Check.number("12a345b6"));
        ordered.put(Check.number("7c8"));
        ordered.recipe();
        int[] due = {12, 0, 0, 345, 67, 8};
        for (int what = 0; what < due.length; what++) {
            Check.due("12a345b67c8: ofRecipe(0, " + what + ")", due[what], ordered.ofRecipe(0, what));
        }
        Document.sentence("8 bits that are 0 mean that there are no more characters, and everything above them has to be 0, too");
        for (int length = 1; length <= 8; length++) {
            Check.due(length + " characters: put()", length, new TinKitchen().put(Check.number("12345678".substring(8 - length))));
        }
        for (int bit = 16; bit < 64; bit++) {
            long number = 1L << bit | '1';
            Check.due("put(" + number + ")", BAD_VALUE, new TinKitchen().put(number));
        }
        Document.sentence("`characters`: 1 to 8 characters");
        Check.due("1: put()", 3, Kitchens.filled().put(Check.number("x")));
        Check.due("8: put()", 10, Kitchens.filled().put(Check.number("x!~;/*@a")));
        Document.sentence("Returns the length of the pad then");
        TinKitchen long80 = new TinKitchen();
        for (int length = 1; length <= 80; length++) {
            Check.due("put('1')", length, long80.put('1'));
        }
    }

    private static void putErrors() {
        Document.sentence("BAD_VALUE if there is no character, a code is not 33 to 126, or a bit above 8 bits that are 0 is not 0");
        Check.unchanged(Kitchens::filled, "put(0)", BAD_VALUE, k -> k.put(0));
        for (int place = 0; place < 8; place++) {
            long others = Check.number("abcdefgh") & ~(255L << 8 * place);
            for (int code : new int[] {1, 32, 127, 128, 255}) {
                refused(others | (long) code << 8 * place);
            }
            Check.due("33 at " + place + ": put()", 8, new TinKitchen().put(others | 33L << 8 * place));
            Check.due("126 at " + place + ": put()", 8, new TinKitchen().put(others | 126L << 8 * place));
            if (place < 7) {
                refused(others);
            }
        }
        for (long number : new long[] {1, 32, 127, 128, 255, -1, Long.MIN_VALUE, Long.MAX_VALUE, Integer.MIN_VALUE,
            '1' << 8, 1L << 32, 1L << 32 | '1', 1L << 63 | '1', (long) '1' << 56, -'1'}) {
            refused(number);
        }
        Check.due("33: put()", 1, new TinKitchen().put(33));
        Check.due("126: put()", 1, new TinKitchen().put(126));
        Check.unchanged(length(80), "ahead of TOO_MANY: put(0)", BAD_VALUE, k -> k.put(0));
        Check.unchanged(length(80), "ahead of TOO_MANY: put(32)", BAD_VALUE, k -> k.put(32));
        Check.unchanged(length(73), "ahead of TOO_MANY: put(\"a bcdefg\")", BAD_VALUE, k -> k.put(Check.number("a bcdefg")));
    }

    private static void refused(long number) {
        Check.unchanged(Kitchens::filled, "put(" + number + ")", BAD_VALUE, k -> k.put(number));
    }

    private static void putIsFull() {
        Document.sentence("TOO_MANY if the pad would be longer than 80");
        for (int more = 1; more <= 8; more++) {
            long characters = Check.number("abcdefgh".substring(0, more));
            Check.due(80 - more + " there, " + more + " more: put()", 80, length(80 - more).get().put(characters));
            Check.unchanged(length(81 - more), 81 - more + " there, " + more + " more: put()", TOO_MANY, k -> k.put(characters));
            Check.unchanged(length(80), "80 there, " + more + " more: put()", TOO_MANY, k -> k.put(characters));
        }
        TinKitchen kitchen = length(80).get();
        kitchen.put('x');
        kitchen.wipe();
        Check.due("after wipe(): put()", 1, kitchen.put('x'));
    }

    private static void wipe() {
        Document.section("Promise 23");
        Document.sentence("Empties the pad, and returns the length that it had");
        Check.due("empty: wipe()", 0, new TinKitchen().wipe());
        Check.due("full: wipe()", 80, length(80).get().wipe());
        TinKitchen kitchen = Kitchens.filled();
        String before = Check.state(kitchen);
        Check.due("2 characters: wipe()", 2, kitchen.wipe());
        Check.due("emptied: count(13)", 0, kitchen.count(13));
        Check.due("emptied: fault()", 0, kitchen.fault());
        Check.due("emptied: wipe()", 0, kitchen.wipe());
        Check.due("no change: count(14)", 5, kitchen.count(14));
        Check.same("the kitchen behind wipe()", before, Check.state(kitchen));
    }

    private static void fault() {
        Document.section("Promise 24");
        Document.sentence("Returns the fault of the pad, NONE if there is none");
        Check.unchanged(TinKitchen::new, "empty: fault()", 0, TinKitchen::fault);
        Check.unchanged(length(1), "1: fault()", NONE, TinKitchen::fault);
        Check.unchanged(length(80), "80 characters: fault()", 2, TinKitchen::fault);
        Check.unchanged(Kitchens::filled, "7x: fault()", 1, TinKitchen::fault);
        TinKitchen kitchen = new TinKitchen();
        Check.write(kitchen, "1h1");
        Check.due("an ingredient that there is not is no fault: fault()", NONE, kitchen.fault());
        Check.write(kitchen, ";1/3".repeat(8) + "@0@1@2@3@4@5");
        Check.due("no fault: fault()", NONE, kitchen.fault());
        Check.write(kitchen, "@6" + "x".repeat(80 - 3 - 32 - 12 - 2));
        Check.due("80 characters: fault()", 3 + 32 + 12 + 2, kitchen.fault());
    }

    /** The fault of a text, and what recipe() says to it. */
    private static void fault(String text, int due) {
        TinKitchen kitchen = Kitchens.ingredients(8);
        Check.write(kitchen, text);
        Check.due("fault() of " + text, due, kitchen.fault());
        Check.due("recipe() of " + text, due == NONE ? 0 : BAD_TEXT, kitchen.recipe());
        Check.due("the pad behind recipe() of " + text, due == NONE ? 0 : text.length(), kitchen.count(13));
    }

    private static void good(String... texts) {
        for (String text : texts) {
            fault(text, NONE);
        }
    }

    private static void grammar() {
        Document.section("Texts");
        Document.sentence("The pad is a text of at most 80 characters, from which a recipe is read");
        String text = "20a500b1;240/3*;240/3*@0;240/3*@0@1;240/3*@0@1@2;240/3*@0@1@2@3;120/1*@0@1@2@3@4";
        Check.due("a text of 80", 80, text.length());
        good(text);
        fault(text.substring(0, 79) + "x", 79);
        Document.sentence("recipe = number { name number } { \";\" step }");
        good("1", "1a1", "1a1;1/1", "1;1/1", "1h1g1f1e1d1c1b1a1", EIGHT_STEPS, "1a1b1;1/1;1/1");
        fault("a1", 0);
        fault(";1/1", 0);
        fault("1a", 2);
        fault("1;", 2);
        fault("1;1/1a1", 5);
        fault("1h1g1f1e1d1c1b1a1x", 17);
        fault("1a1b1c1d1e1f1g1h1a1", 17);
        fault("1a1b1c1d1e1f1g1h1i1", 17);
        fault(EIGHT_STEPS + ";", 33);
        Document.sentence("step = number \"/\" digit [ \"*\" ] { \"@\" digit }");
        good("1;1/1*", "1;1/1;1/1@0", "1;1/1;1/1*@0", EIGHT_STEPS + "@0@1@2@3@4@5@6", EIGHT_STEPS + "*@6@5@4@3@2@1@0");
        fault("1;/1", 2);
        fault("1;1", 3);
        fault("1;1*/1", 3);
        fault("1;1/", 4);
        fault("1;1/*", 4);
        fault("1;1/12", 5);
        fault("1;1/1**", 6);
        fault("1;1/1;1/1@", 10);
        fault("1;1/1;1/1@@0", 10);
        fault("1;1/1;1/1@0*", 11);
        fault("1;1/1;1/1@01", 11);
    }

    private static void numbers() {
        Document.sentence("for the base portions (1 to 20), ingredients (letters a to h) with their amounts (1 to 500), and steps "
            + "with their duration (1 to 240) and hands (0 to 3)");
        good("1", "9", "10", "19", "20");
        fault("0", 0);
        fault("21", 1);
        fault("29", 1);
        fault("30", 1);
        fault("100", 2);
        fault("200", 2);
        good("1a1", "1h1", "1a9", "1a10", "1a99", "1a100", "1a499", "1a500");
        fault("1`1", 1);
        fault("1i1", 1);
        fault("1A1", 1);
        fault("1a0", 2);
        fault("1a501", 4);
        fault("1a509", 4);
        fault("1a510", 4);
        fault("1a600", 4);
        fault("1a1000", 5);
        fault("1a5000", 5);
        good("1;1/1", "1;9/1", "1;10/1", "1;99/1", "1;239/1", "1;240/1");
        fault("1;0/1", 2);
        fault("1;241/1", 4);
        fault("1;250/1", 4);
        fault("1;300/1", 4);
        fault("1;2400/1", 5);
        fault("1;1000/1", 5);
        good("1;1/0", "1;1/1", "1;1/2", "1;1/3");
        fault("1;1/4", 4);
        fault("1;1/9", 4);
        fault("1;1//", 4);
        fault("1;1/:", 4);
    }

    private static void steps() {
        Document.sentence("\"*\" means that it grows, and each \"@\" names an earlier step (0 to 7) that comes before it");
        TinKitchen kitchen = Kitchens.recipes("1;5/1*;5/1;5/1*@1@0" + ";5/1".repeat(5) + "@6@0");
        int[] growsAndBefore = {1, 0, 0, 0, 1, 3, 0, 0, 0, 0, 0, 0, 0, 0, 0, 65};
        for (int step = 0; step < 8; step++) {
            Check.due("step(0, " + step + ", 3)", growsAndBefore[2 * step], kitchen.step(0, step, 3));
            Check.due("step(0, " + step + ", 2)", growsAndBefore[2 * step + 1], kitchen.step(0, step, 2));
        }
        fault("1;5/1@0", 6);
        for (int step = 1; step < 8; step++) {
            String text = "1" + ";5/1".repeat(step + 1) + "@";
            for (int named = 0; named <= 9; named++) {
                fault(text + named, named < step ? NONE : text.length());
            }
            fault(text + "/", text.length());
            fault(text + ":", text.length());
        }
    }

    private static void twice() {
        Document.sentence("No ingredient is named twice, and no step twice in a step");
        fault("1a5a5", 3);
        fault("1a5b5a5", 5);
        fault("1a5b5b5", 5);
        fault("1a500b500c500d500e500f500g500h500h1", 33);
        good("1a5b5", "1b5a5");
        fault("1;5/1;5/1@0@0", 12);
        fault("1;5/1;5/1;5/1@0@1@0", 18);
        fault("1;5/1;5/1;5/1@1@0@1", 18);
        fault(EIGHT_STEPS + "@6@5@4@3@2@1@0@6", 48);
        good("1;5/1;5/1@0;5/1@0", "1;5/1;5/1@0;5/1@1@0;5/1@0@1");
    }

    private static void zeros() {
        Document.sentence("Numbers are without leading zeros");
        fault("01", 0);
        fault("020", 0);
        fault("1a01", 2);
        fault("1a0500", 2);
        fault("1;01/1", 2);
        fault("1;0240/1", 2);
        Document.sentence("a 0 cannot begin a number");
        fault("0", 0);
        fault("0a1", 0);
        fault("1a0", 2);
        fault("1a0;1/1", 2);
        fault("1;0", 2);
        good("10", "20", "10a10", "1a100", "1a500", "1;10/0", "1;200/0;1/0@0");
    }

    private static void firstFault() {
        Document.sentence("The fault is the index of the first character that cannot stand at its place when the text is read "
            + "from left to right");
        fault("x", 0);
        fault("!", 0);
        fault("~", 0);
        fault("/", 0);
        fault(":", 0);
        fault("1/", 1);
        fault("1:", 1);
        fault("1*", 1);
        fault("1@", 1);
        fault("1x0", 1);
        fault("21x0", 1);
        fault("1a5/5", 3);
        fault("1a5:", 3);
        fault("1a5*0", 3);
        fault("1a501a501", 4);
        fault("1;5;0", 3);
        fault("1;5a", 3);
        fault("1;5/1x@9", 5);
        fault("1a999999999999999999", 4);
        fault("9999999999999999999999", 1);
        fault("1;42949672970/1", 4);
        fault("1a4294967297", 5);
        fault("1a" + "1".repeat(78), 5);
        fault(EIGHT_STEPS + "x", 33);
        fault(EIGHT_STEPS + ";0", 33);
        fault(EIGHT_STEPS + ";5/1", 33);
        fault(EIGHT_STEPS + "*;5/1", 34);
        fault("1" + ";5/1".repeat(7) + ";", 30);
        fault("1" + ";5/1".repeat(7) + "x", 29);
    }

    private static void end() {
        Document.sentence("if there is none and the text ends too early (also if it is empty), it is the length of the text");
        fault("", 0);
        fault("1a", 2);
        fault("1a1b", 4);
        fault("20a500h", 7);
        fault("1;", 2);
        fault("1;5", 3);
        fault("1;240", 5);
        fault("1;5/", 4);
        fault("1;5/1@", 6);
        fault("1;5/1*;", 7);
        fault("1;5/1;5/1@", 10);
        fault("1;5/1;5/1@0@", 12);
        fault(EIGHT_STEPS + "@", 34);
        String text = "20a500b100c100d100e100f100g100h100;240/3*;240/3*@0;240/3*@0@1;240/3*@0@1;240/3*@";
        Check.due("a text of 80", 80, text.length());
        fault(text, 80);
    }
}
