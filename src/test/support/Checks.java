/** Counts and prints the answers that are not as due, and helps to write names and texts. */
final class Checks {
    private final String title;
    private int wrong;

    Checks(String title) {
        this.title = title;
    }

    void due(String call, long got, long want) {
        if (got != want) {
            wrong++;
            System.out.println(title + ": " + call + " answered " + got + ", due is " + want);
        }
    }

    void fail(String what) {
        wrong++;
        System.out.println(title + ": " + what);
    }

    /** Ends the program with exit code 1 if something was wrong. */
    void finish() {
        System.out.println(title + ": " + (wrong == 0 ? "all answers are as due" : wrong + " wrong"));
        if (wrong != 0) {
            System.exit(1);
        }
    }

    static void spell(PropellantGauge gauge, String name) {
        for (int i = 0; i < name.length(); i++) {
            gauge.letter(name.charAt(i));
        }
    }

    static int engine(PropellantGauge gauge, String name, int flow, int uncertainty) {
        spell(gauge, name);
        return gauge.addEngine(flow, uncertainty);
    }

    /** Empties the text and types a new one. */
    static void write(PropellantGauge gauge, String text) {
        gauge.clearText();
        for (int i = 0; i < text.length(); i++) {
            gauge.type(text.charAt(i));
        }
    }
}
