import java.util.ArrayList;
import java.util.List;
import java.util.function.Supplier;
import java.util.function.ToLongFunction;

/** All that can be asked of an object, so that it can be shown that a call changed nothing. */
final class Whole {
    private static final int MOST_ACTS = 14;

    private Whole() {
    }

    /** The call answers what is due, and everything else is as if it had not been made. */
    static void unchanged(String call, Supplier<OneTricycle> made, ToLongFunction<OneTricycle> asked, long due) {
        Check.due(call, asked.applyAsLong(made.get()), due);
        unchanged(call, made, asked);
    }

    static void unchanged(String call, Supplier<OneTricycle> made, ToLongFunction<OneTricycle> asked) {
        List<String> before = told(made);
        List<String> after = told(() -> {
            OneTricycle x = made.get();
            asked.applyAsLong(x);
            return x;
        });
        for (int k = 0; k < before.size(); k++) {
            Check.same(call + " changes nothing", after.get(k), before.get(k));
        }
    }

    /** Most questions use their object up, so each is put to one that was made anew. */
    private static List<String> told(Supplier<OneTricycle> made) {
        List<String> told = new ArrayList<>();
        told.add("now: " + Check.told(made.get()));
        told.add("THE SEED: " + made.get().seed(0));
        OneTricycle typed = made.get();
        told.add("THE TEXT: " + typed.fault() + " " + typed.garden() + " " + Check.told(typed));
        OneTricycle seen = made.get();
        told.add("SEEN: " + seen.may() + " " + seen.minute() + " " + seen.may() + " " + seen.unsee());
        for (int slot = 0; slot < 2; slot++) {
            OneTricycle kept = made.get();
            told.add("SLOT " + slot + ": " + kept.again(slot) + " " + Check.told(kept));
        }
        for (int times = 1; times <= MOST_ACTS + 1; times++) {
            told.add("undone " + times + ": " + undone(made.get(), times));
        }
        return told;
    }

    private static String undone(OneTricycle x, int times) {
        StringBuilder left = new StringBuilder();
        for (int k = 0; k < times; k++) {
            left.append(x.undo()).append(' ');
        }
        return left + Check.told(x);
    }
}
