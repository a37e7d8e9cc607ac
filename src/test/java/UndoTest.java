import java.util.List;
import java.util.function.ToIntFunction;

/** Promises 25 to 27: undo, save, restore. */
public final class UndoTest {
    private static final int NOT_POSSIBLE = TinKitchen.NOT_POSSIBLE;
    private static final int NONE = TinKitchen.NONE;

    public static void main(String[] arguments) {
        undoBringsBackAllThings();
        undoGoesBackStepByStep();
        undoKeepsSixStates();
        changesWithoutADifferenceAreRecorded();
        errorsAndQuestionsAreNotRecorded();
        undoLeavesPadAndSlots();
        saveAnswersTheDay();
        restoreBringsBackAllThings();
        restoreIsAChange();
        slotsAreKept();
        Check.end("UndoTest");
    }

    /** A kitchen with something of all kinds; its latest change is of the menu. */
    private static TinKitchen filled() {
        TinKitchen kitchen = new TinKitchen();
        kitchen.ingredient(3);
        kitchen.ingredient(5);
        kitchen.tin(0, 100, 40);
        kitchen.tin(1, 500, 99);
        kitchen.substitute(0, 1, 50);
        kitchen.stock(0, 120);
        kitchen.pass(1);
        kitchen.stock(0, 30);
        Check.recipe(kitchen, "4a200b30;10/1;20/2*@0;5/0@0@1");
        kitchen.menu(0, 2);
        kitchen.cook();
        kitchen.menu(0, 6);
        return kitchen;
    }

    private static List<ToIntFunction<TinKitchen>> changes() {
        return List.of(k -> k.ingredient(9), k -> k.tin(0, 250, 90), k -> k.buyable(0, 0),
            k -> k.substitute(0, NONE, 0), k -> k.stock(1, 77), k -> Check.recipe(k, "3b5;7/2*"),
            k -> k.amount(0, 1, 33), k -> k.menu(0, 20), k -> k.hands(5), TinKitchen::cook, k -> k.pass(3));
    }

    private static void undoBringsBackAllThings() {
        int number = 0;
        for (ToIntFunction<TinKitchen> change : changes()) {
            TinKitchen kitchen = filled();
            // With 5 states the history is as long before the change as when it is undone.
            kitchen.hands(2);
            kitchen.undo();
            String before = Check.look(kitchen);
            int answer = change.applyAsInt(kitchen);
            Check.due("change " + number + " is one", 1, answer >= 0 ? 1 : 0);
            Check.due("change " + number + " makes a difference", 0, before.equals(Check.look(kitchen)) ? 1 : 0);
            Check.due("undo() of change " + number, 5, kitchen.undo());
            Check.same("the kitchen behind undo() of change " + number, before, Check.look(kitchen));
            number++;
        }
    }

    private static void undoGoesBackStepByStep() {
        TinKitchen kitchen = new TinKitchen();
        String[] looks = new String[4];
        for (int change = 0; change < 4; change++) {
            looks[change] = Check.look(kitchen);
            kitchen.ingredient(change + 1);
        }
        for (int change = 3; change >= 0; change--) {
            Check.due("undo()", change, kitchen.undo());
            Check.same("the kitchen before change " + change, looks[change], Check.look(kitchen));
        }
        Check.due("undo() of nothing", NOT_POSSIBLE, kitchen.undo());
        Check.due("ingredient again", 0, kitchen.ingredient(7));
        Check.due("days", 7, kitchen.about(0, 0));
        Check.due("undo()", 0, kitchen.undo());
    }

    private static void undoKeepsSixStates() {
        TinKitchen kitchen = new TinKitchen();
        for (int hands = 1; hands < 16; hands++) {
            kitchen.hands(1 + hands % 6);
            Check.due("recorded", Math.min(hands, 6), kitchen.count(14));
        }
        for (int left = 5; left >= 0; left--) {
            Check.due("undo()", left, kitchen.undo());
            Check.due("hands", 1 + (9 + left) % 6, kitchen.count(3));
        }
        Check.due("undo()", NOT_POSSIBLE, kitchen.undo());
        Check.due("hands", 1 + 9 % 6, kitchen.count(3));
        TinKitchen mixed = new TinKitchen();
        for (int day = 0; day < 9; day++) {
            mixed.pass(1);
        }
        mixed.undo();
        mixed.undo();
        mixed.pass(10);
        Check.due("recorded", 5, mixed.count(14));
        Check.due("day", 17, mixed.count(0));
        for (int left = 4; left >= 0; left--) {
            Check.due("undo()", left, mixed.undo());
            Check.due("day", 3 + left, mixed.count(0));
        }
    }

    private static void changesWithoutADifferenceAreRecorded() {
        TinKitchen kitchen = filled();
        while (kitchen.count(14) > 0) {
            kitchen.undo();
        }
        int recorded = 0;
        Check.due("hands(2)", 2, kitchen.hands(2));
        Check.due("recorded", ++recorded, kitchen.count(14));
        kitchen.buyable(0, 1);
        Check.due("recorded", ++recorded, kitchen.count(14));
        kitchen.substitute(1, NONE, 0);
        Check.due("recorded", ++recorded, kitchen.count(14));
        kitchen.save(0);
        kitchen.restore(0);
        Check.due("recorded", ++recorded, kitchen.count(14));
    }

    private static void errorsAndQuestionsAreNotRecorded() {
        TinKitchen kitchen = filled();
        kitchen.undo();
        int recorded = kitchen.count(14);
        kitchen.ingredient(0);
        kitchen.tin(0, 100, 1);
        kitchen.buyable(0, 2);
        kitchen.substitute(1, 0, 100);
        kitchen.stock(0, 0);
        kitchen.recipe();
        kitchen.amount(0, 0, 501);
        kitchen.menu(0, 21);
        kitchen.hands(0);
        kitchen.cook();
        kitchen.pass(0);
        kitchen.restore(0);
        kitchen.bestPortions(0, 1, 20);
        kitchen.fewestHands(100);
        kitchen.ifBuyable(0, 0);
        kitchen.put('1');
        kitchen.fault();
        kitchen.wipe();
        kitchen.save(0);
        Check.due("recorded", recorded, kitchen.count(14));
    }

    private static void undoLeavesPadAndSlots() {
        TinKitchen kitchen = new TinKitchen();
        kitchen.pass(7);
        kitchen.save(0);
        kitchen.put('5');
        kitchen.pass(1);
        kitchen.save(1);
        kitchen.undo();
        kitchen.undo();
        Check.due("day", 0, kitchen.count(0));
        Check.due("pad", 1, kitchen.count(13));
        Check.due("restore(1)", 8, kitchen.restore(1));
        Check.due("restore(0)", 7, kitchen.restore(0));
        kitchen.recipe();
        kitchen.undo();
        Check.due("the pad that recipe() emptied", 0, kitchen.count(13));
    }

    private static void saveAnswersTheDay() {
        TinKitchen kitchen = new TinKitchen();
        Check.due("save(0)", 0, kitchen.save(0));
        kitchen.pass(60);
        Check.due("save(1)", 60, kitchen.save(1));
        Check.due("restore(0)", 0, kitchen.restore(0));
        Check.due("save(0)", 0, kitchen.save(0));
        Check.due("restore(1)", 60, kitchen.restore(1));
    }

    private static void restoreBringsBackAllThings() {
        int number = 0;
        for (ToIntFunction<TinKitchen> change : changes()) {
            TinKitchen kitchen = filled();
            kitchen.save(number % 2);
            String before = Check.look(kitchen);
            change.applyAsInt(kitchen);
            int day = number == 10 ? 1 : kitchen.count(0);
            Check.due("restore() behind change " + number, day, kitchen.restore(number % 2));
            Check.same("the kitchen restored behind change " + number, before, Check.look(kitchen));
            number++;
        }
    }

    private static void restoreIsAChange() {
        TinKitchen kitchen = filled();
        kitchen.save(1);
        kitchen.undo();
        kitchen.ingredient(9);
        kitchen.put(Check.number("9x"));
        String before = Check.look(kitchen);
        Check.due("restore(1)", 1, kitchen.restore(1));
        Check.due("ingredients", 2, kitchen.count(1));
        Check.due("the pad stays", 2, kitchen.count(13));
        Check.due("recorded", 6, kitchen.count(14));
        Check.due("undo()", 5, kitchen.undo());
        kitchen.undo();
        kitchen.ingredient(9);
        kitchen.hands(kitchen.count(3));
        Check.same("the kitchen behind undo()", before, Check.look(kitchen));
    }

    private static void slotsAreKept() {
        TinKitchen kitchen = filled();
        kitchen.save(0);
        String before = Check.look(kitchen);
        for (int turn = 0; turn < 3; turn++) {
            kitchen.restore(0);
            kitchen.stock(0, 5);
            kitchen.amount(0, 0, 7);
            kitchen.tin(0, 60, 6);
            kitchen.menu(0, 0);
            kitchen.pass(9);
            kitchen.restore(0);
            Check.same("turn " + turn, before, Check.look(kitchen));
        }
        kitchen.pass(4);
        Check.due("save(0) over it", 5, kitchen.save(0));
        kitchen.pass(4);
        Check.due("restore(0)", 5, kitchen.restore(0));
    }
}
