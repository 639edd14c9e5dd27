import java.util.function.LongSupplier;

/** Counts and prints the answers that are not as due. */
final class Due {
    private int asDue;
    private int wrong;
    private String about = "";

    void about(String what) {
        about = what;
    }

    void is(String call, long got, long due) {
        if (got == due) {
            asDue++;
            return;
        }
        wrong++;
        if (wrong <= 40) {
            System.out.println(about + ": " + call + " answered " + got + ", due is " + due);
        }
    }

    /** Also a failure: a call that throws. */
    void is(String call, LongSupplier got, long due) {
        try {
            is(call, got.getAsLong(), due);
        } catch (RuntimeException | StackOverflowError thrown) {
            wrong++;
            System.out.println(about + ": " + call + " threw " + thrown + ", due is " + due);
        }
    }

    /** What desk() answers on a text, told to a new desk. */
    void items(String text, int items) {
        is("desk() on '" + text + "'", tell(new SpreadDesk(), text), items);
    }

    void fault(String text, int place) {
        is("desk() on '" + text + "'", tell(new SpreadDesk(), text), -10 - place);
    }

    void end() {
        System.out.println(asDue + " answers as due, " + wrong + " not");
        if (wrong != 0 || asDue == 0) {
            System.exit(1);
        }
    }

    static void type(SpreadDesk desk, String text) {
        for (int i = 0; i < text.length(); i++) {
            desk.type(text.charAt(i));
        }
    }

    static int tell(SpreadDesk desk, String text) {
        desk.clear();
        type(desk, text);
        return desk.desk();
    }

    static SpreadDesk told(String text) {
        SpreadDesk desk = new SpreadDesk();
        int items = tell(desk, text);
        if (items < 0) {
            throw new IllegalStateException(text + " answered " + items);
        }
        return desk;
    }
}
