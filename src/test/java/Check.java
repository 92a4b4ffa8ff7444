import java.util.function.IntSupplier;

/** Counts the answers that are not as due, and types pages for the tests. */
final class Check {
    private final String name;
    private int asked;
    private int wrong;

    Check(String name) {
        this.name = name;
    }

    void due(String call, long got, long want) {
        asked++;
        if (got != want) {
            wrong++;
            System.out.println(name + ": " + call + " answered " + got + ", due is " + want);
        }
    }

    /** The call is refused as told, and leaves all that can be asked as it was. */
    void refused(String call, TideTable table, IntSupplier asking, int refusal) {
        long before = table.digest();
        due(call, asking.getAsInt(), refusal);
        due("digest() behind the refused " + call, table.digest(), before);
    }

    /** Answers for 0, 1, 2 and so on, all of one call. */
    void row(String call, java.util.function.IntUnaryOperator asking, int... wants) {
        for (int i = 0; i < wants.length; i++) {
            due(call + " [" + i + "]", asking.applyAsInt(i), wants[i]);
        }
    }

    int asked() {
        return asked;
    }

    void end() {
        System.out.println(name + ": " + asked + " answers, " + wrong + " wrong");
        if (wrong != 0 || asked == 0) {
            System.exit(1);
        }
    }

    static TideTable typed(String page) {
        TideTable table = new TideTable();
        type(table, page);
        return table;
    }

    static void type(TideTable table, String page) {
        for (int i = 0; i < page.length(); i++) {
            table.letter(page.charAt(i));
        }
    }

    static TideTable read(String page) {
        TideTable table = typed(page);
        if (table.ports() < 1) {
            System.out.println("not read: " + page);
            System.exit(1);
        }
        return table;
    }
}
