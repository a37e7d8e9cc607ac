import java.util.LinkedHashMap;
import java.util.Map;
import java.util.function.ToIntFunction;

/** The bounds of the promises 25 to 27: undo, save, restore. */
final class HistoryBounds {
    private static final int BAD_VALUE = TinKitchen.BAD_VALUE;
    private static final int NOT_POSSIBLE = TinKitchen.NOT_POSSIBLE;
    private static final int NONE = TinKitchen.NONE;

    private HistoryBounds() {
    }

    static void run() {
        undo();
        undoLeaves();
        recorded();
        notRecorded();
        oldest();
        save();
        restore();
        restoreChanges();
    }

    /** One of each kind of change, as it is called on the filled kitchen; each makes a difference. */
    private static Map<String, ToIntFunction<TinKitchen>> changes() {
        Map<String, ToIntFunction<TinKitchen>> changes = new LinkedHashMap<>();
        changes.put("ingredient", k -> k.ingredient(9));
        changes.put("tin", k -> k.tin(0, 250, 90));
        changes.put("buyable", k -> k.buyable(0, 0));
        changes.put("substitute", k -> k.substitute(0, NONE, 0));
        changes.put("stock", k -> k.stock(1, 77));
        changes.put("recipe", k -> Check.recipe(k, "3b5;7/2*"));
        changes.put("amount", k -> k.amount(0, 1, 33));
        changes.put("menu", k -> k.menu(0, 20));
        changes.put("hands", k -> k.hands(6));
        changes.put("cook", TinKitchen::cook);
        changes.put("pass", k -> k.pass(3));
        changes.put("restore", k -> k.restore(0));
        return changes;
    }

    private static TinKitchen sixRecorded() {
        TinKitchen kitchen = Kitchens.filled();
        kitchen.hands(3);
        return kitchen;
    }

    private static void undo() {
        Document.section("Promise 25");
        Document.sentence("Undoes the latest change: everything except the pad, the slots and the history is as it was before it");
        changes().forEach((name, change) -> {
            TinKitchen kitchen = sixRecorded();
            String before = Check.state(kitchen);
            Check.due("it is a change: " + name, 1, change.applyAsInt(kitchen) >= 0 ? 1 : 0);
            Check.due("it makes a difference: " + name, 0, before.equals(Check.state(kitchen)) ? 1 : 0);
            Check.due("undo() of " + name, 5, kitchen.undo());
            Check.same("the kitchen behind undo() of " + name, before, Check.state(kitchen));
        });
        TinKitchen two = Kitchens.filled();
        String before = Check.state(two);
        two.pass(1);
        String between = Check.state(two);
        two.cook();
        two.undo();
        Check.same("the latest one alone", between, Check.state(two));
        two.undo();
        Check.same("then the one before", before, Check.state(two));
    }

    private static void undoLeaves() {
        Document.sentence("Undoes the latest change");
        TinKitchen kitchen = Kitchens.filled();
        kitchen.pass(2);
        kitchen.put('y');
        kitchen.save(0);
        kitchen.undo();
        Check.due("the pad stays: count(13)", 3, kitchen.count(13));
        Check.due("the slot stays: restore(0)", 3, kitchen.restore(0));
        kitchen.wipe();
        kitchen.undo();
        Check.due("the empty pad stays: count(13)", 0, kitchen.count(13));
        Check.due("the day of before: count(0)", 1, kitchen.count(0));
    }

    private static void recorded() {
        Document.sentence("A history of at most 6 states is kept: each method that is a change, and returns no error, records the "
            + "state before it (also if nothing is different then)");
        changes().forEach((name, change) -> {
            TinKitchen kitchen = Kitchens.filled();
            change.applyAsInt(kitchen);
            Check.due("5 and one: count(14) behind " + name, 6, kitchen.count(14));
            TinKitchen full = sixRecorded();
            change.applyAsInt(full);
            Check.due("6 and one: count(14) behind " + name, 6, full.count(14));
        });
        Map<String, ToIntFunction<TinKitchen>> same = new LinkedHashMap<>();
        same.put("buyable(0, 1)", k -> k.buyable(0, 1));
        same.put("substitute(0, 1, 50)", k -> k.substitute(0, 1, 50));
        same.put("substitute(1, NONE, 0)", k -> k.substitute(1, NONE, 0));
        same.put("amount(0, 0, 200)", k -> k.amount(0, 0, 200));
        same.put("menu(0, 6)", k -> k.menu(0, 6));
        same.put("hands(2)", k -> k.hands(2));
        same.put("restore(1)", k -> {
            k.save(1);
            return k.restore(1);
        });
        same.forEach((call, change) -> {
            TinKitchen kitchen = Kitchens.filled();
            String before = Check.state(kitchen);
            change.applyAsInt(kitchen);
            Check.same("nothing is different behind " + call, before, Check.state(kitchen));
            Check.due("count(14) behind " + call, 6, kitchen.count(14));
            Check.due("undo() of " + call, 5, kitchen.undo());
            Check.same("nothing is different behind undo() of " + call, before, Check.state(kitchen));
        });
    }

    private static void notRecorded() {
        Document.sentence("each method that is a change, and returns no error, records");
        TinKitchen kitchen = Kitchens.filled();
        kitchen.wipe();
        int[] errors = {kitchen.ingredient(0), kitchen.tin(0, 100, 1), kitchen.buyable(0, 2), kitchen.substitute(1, 0, 100),
            kitchen.stock(0, 0), kitchen.recipe(), kitchen.amount(0, 0, 501), kitchen.menu(0, 21), kitchen.hands(0),
            kitchen.pass(0), kitchen.save(2), kitchen.restore(2), kitchen.put(0)};
        for (int error : errors) {
            Check.due("it is an error: " + error, 1, error < 0 && error > NONE ? 1 : 0);
        }
        Check.due("errors: count(14)", 5, kitchen.count(14));
        kitchen.put('1');
        kitchen.fault();
        kitchen.wipe();
        kitchen.save(0);
        kitchen.about(0, 5);
        kitchen.ofTin(0, 0, 2);
        kitchen.needs(0, 3);
        kitchen.step(0, 1, 5);
        kitchen.ofRecipe(0, 2);
        kitchen.bestPortions(0, 1, 20);
        kitchen.fewestHands(100);
        kitchen.ifBuyable(0, 0);
        Check.due("what is no change: count(14)", 5, kitchen.count(14));
        Check.due("undo() is no change: undo()", 4, kitchen.undo());
        Check.due("undo() is no change: count(14)", 4, kitchen.count(14));
    }

    private static void oldest() {
        Document.sentence("when one more is recorded, the oldest one is dropped");
        for (int changes = 0; changes <= 20; changes++) {
            TinKitchen kitchen = new TinKitchen();
            for (int change = 0; change < changes; change++) {
                kitchen.pass(1);
            }
            int kept = Math.min(changes, 6);
            Check.due(changes + " changes: count(14)", kept, kitchen.count(14));
            for (int left = kept - 1; left >= 0; left--) {
                Check.due(changes + " changes: undo()", left, kitchen.undo());
                Check.due(changes + " changes: count(0)", changes - kept + left, kitchen.count(0));
            }
            Check.due(changes + " changes, none left: undo()", NOT_POSSIBLE, kitchen.undo());
            Check.due(changes + " changes, none left: count(0)", changes - kept, kitchen.count(0));
        }
        Document.sentence("Returns how many changes can be undone then");
        TinKitchen mixed = new TinKitchen();
        Check.undo(passed(mixed, 9), 2);
        Check.due("9, undone 2: count(14)", 4, mixed.count(14));
        passed(mixed, 5);
        Check.due("and 5 more: count(14)", 6, mixed.count(14));
        Check.due("and 5 more: count(0)", 12, mixed.count(0));
        for (int left = 5; left >= 0; left--) {
            Check.due("undo()", left, mixed.undo());
            Check.due("count(0)", 6 + left, mixed.count(0));
        }
        Document.sentence("NOT_POSSIBLE if there is none");
        Check.unchanged(TinKitchen::new, "a new kitchen: undo()", NOT_POSSIBLE, TinKitchen::undo);
        Check.unchanged(HistoryBounds::allUndone, "all is undone: undo()", NOT_POSSIBLE, TinKitchen::undo);
        Check.due("one is there: undo()", 0, passed(new TinKitchen(), 1).undo());
        TinKitchen again = allUndone();
        again.pass(1);
        Check.due("one is there again: undo()", 0, again.undo());
    }

    private static TinKitchen passed(TinKitchen kitchen, int days) {
        for (int day = 0; day < days; day++) {
            kitchen.pass(1);
        }
        return kitchen;
    }

    private static TinKitchen allUndone() {
        TinKitchen kitchen = Kitchens.filled();
        Check.undo(kitchen, 5);
        return kitchen;
    }

    private static void save() {
        Document.section("Promise 26");
        Document.sentence("Saves everything except the pad, the history and the slots in a slot, and overwrites what was saved there");
        for (int slot = 0; slot <= 1; slot++) {
            TinKitchen kitchen = Kitchens.filled();
            String before = Check.state(kitchen);
            kitchen.save(slot);
            Check.same("the kitchen behind save()", before, Check.state(kitchen));
            Check.due("the pad behind save(): count(13)", 2, kitchen.count(13));
            Check.due("the history behind save(): count(14)", 5, kitchen.count(14));
            kitchen.pass(60);
            kitchen.ingredient(30);
            kitchen.put('y');
            Check.due("overwritten: restore()", 1, kitchen.restore(slot));
            Check.same("the kitchen that was saved", before, Check.state(kitchen));
            Check.due("the pad is not saved: count(13)", 3, kitchen.count(13));
            Check.due("the history is not saved: count(14)", 6, kitchen.count(14));
            Check.due("the other slot is not saved: restore()", slot == 0 ? 1 : 0, kitchen.restore(1 - slot));
        }
        Document.sentence("`slot`: 0 or 1");
        Check.taken(Kitchens::filled, "save(#)", TinKitchen::save, 0, 1, 1, 1);
        Check.taken(TinKitchen::new, "of a new kitchen: save(#)", TinKitchen::save, 0, 0, 1, 0);
        Document.sentence("Returns the day");
        Check.taken(() -> Kitchens.onDay(3000), "save(#)", TinKitchen::save, 0, 3000, 1, 3000);
        Document.sentence("BAD_VALUE if there is no such slot");
        Check.outside(Kitchens::filled, "save(#)", BAD_VALUE, 0, 1, TinKitchen::save);
        Check.outside(TinKitchen::new, "of a new kitchen: save(#)", BAD_VALUE, 0, 1, TinKitchen::save);
    }

    private static void restore() {
        Document.section("Promise 27");
        Document.sentence("Restores what was saved last in a slot, which keeps it");
        changes().forEach((name, change) -> {
            TinKitchen kitchen = Kitchens.filled();
            kitchen.save(1);
            String before = Check.state(kitchen);
            for (int turn = 0; turn < 2; turn++) {
                change.applyAsInt(kitchen);
                Check.due("restore(1) behind " + name, 1, kitchen.restore(1));
                Check.same("the kitchen restored behind " + name + ", turn " + turn, before, Check.state(kitchen));
            }
        });
        anotherInItsPlace("ingredient", k -> k.ingredient(9), k -> k.ingredient(20));
        anotherInItsPlace("tin", k -> k.tin(0, 250, 90), k -> k.tin(0, 60, 7));
        anotherInItsPlace("recipe", k -> Check.recipe(k, "3b5;7/2*"), k -> Check.recipe(k, "20a1;5/1;3/0@0"));
        TinKitchen empty = new TinKitchen();
        empty.save(0);
        empty.ingredient(30);
        empty.pass(7);
        Check.due("an empty kitchen: restore(0)", 0, empty.restore(0));
        Check.due("an empty kitchen: count(1)", 0, empty.count(1));
        Check.due("an empty kitchen: count(0)", 0, empty.count(0));
    }

    private static void restoreChanges() {
        Document.sentence("This is a change");
        Check.change(Kitchens::filled, "restore(0)", 0, k -> k.restore(0));
        Check.change(Kitchens::filled, "restore(1)", 1, k -> k.restore(1));
        Document.sentence("`slot`: 0 or 1");
        Check.taken(Kitchens::filled, "restore(#)", TinKitchen::restore, 0, 0, 1, 1);
        Document.sentence("Returns the day then");
        TinKitchen late = Kitchens.onDay(3000);
        late.save(0);
        Check.due("restore(1)", 1, late.restore(1));
        Check.due("restore(0)", 3000, late.restore(0));
        Check.due("count(0)", 3000, late.count(0));
        Check.due("pass(1)", NOT_POSSIBLE, late.pass(1));
        Document.sentence("BAD_VALUE if there is no such slot");
        Check.outside(Kitchens::filled, "restore(#)", BAD_VALUE, 0, 1, TinKitchen::restore);
        Check.outside(TinKitchen::new, "ahead of NOT_POSSIBLE: restore(#)", BAD_VALUE, 0, 1, TinKitchen::restore);
        Document.sentence("NOT_POSSIBLE if nothing was saved in it");
        Check.refused(() -> Kitchens.ingredients(2), "restore(#)", NOT_POSSIBLE, TinKitchen::restore, 0, 1);
        for (int slot = 0; slot <= 1; slot++) {
            TinKitchen one = new TinKitchen();
            one.save(slot);
            Check.due("the other one is saved: restore()", NOT_POSSIBLE, one.restore(1 - slot));
            Check.due("saved: restore()", 0, one.restore(slot));
            one.undo();
            Check.due("undo() leaves the slots: restore()", NOT_POSSIBLE, one.restore(1 - slot));
        }
    }

    /** Something is saved and undone, and another one is made that bears its number: both can be had again. */
    private static void anotherInItsPlace(String name, ToIntFunction<TinKitchen> saved, ToIntFunction<TinKitchen> other) {
        TinKitchen kitchen = Kitchens.filled();
        saved.applyAsInt(kitchen);
        kitchen.save(0);
        String before = Check.state(kitchen);
        kitchen.undo();
        other.applyAsInt(kitchen);
        String then = Check.state(kitchen);
        kitchen.restore(0);
        Check.same("the " + name + " that was saved", before, Check.state(kitchen));
        kitchen.undo();
        Check.same("the " + name + " made in its place", then, Check.state(kitchen));
    }
}
