/** Histories that lead to the states in which refused calls are looked at; with a snapshot they stay below 512 calls. */
final class States {
    private States() {
    }

    static void fresh(PropellantGauge x) {
    }

    /**
     * Two tanks, of which the second has an empty table, and two engines; no engine burns. The name buffer
     * holds ab, so that it names the engine abc behind one letter more.
     */
    static void resting(PropellantGauge x) {
        x.addTank(1000, 50);
        x.addTank(800, 700);
        x.addPoint(0, 100, 10);
        x.addPoint(0, 9000, 9000);
        x.load(0, 5000, 30);
        x.load(1, 4000, 20);
        x.setLeak(0, 2);
        x.setGaugeVariance(1, 77);
        Checks.engine(x, "a", 7, 100);
        Checks.engine(x, "abc", 3, 500);
        x.setValve(1, 0, 0);
        x.set(0, 10);
        x.set(1, 16);
        x.set(2, 13);
        x.ignite(1);
        x.pass(40);
        x.cutoff();
        Checks.spell(x, "ab");
        Checks.write(x, "burn abc 3;wait 2;start a;wait 4;read 0 5000;");
    }

    /** The same craft in a burn of engine 0 that has settled, with a reading that was accepted. */
    static void burning(PropellantGauge x) {
        resting(x);
        x.ignite(0);
        x.pass(12);
        x.read(0, 4880);
    }

    /** The same craft in a burn that has starved. */
    static void starved(PropellantGauge x) {
        resting(x);
        x.load(0, 30, 5);
        x.load(1, 20, 5);
        x.setLeak(1, 5);
        x.ignite(0);
        x.pass(12);
    }

    /** All that has a fixed limit has reached it; no engine burns, and the last character is a fault. */
    static void full(PropellantGauge x) {
        fill(x, "wait 0007;".repeat(8) + "burn c 3;burn hh 1; ");
    }

    /** The same limits reached, with a text that has no fault, in a burn of engine 1. */
    static void fullBurning(PropellantGauge x) {
        fill(x, "stop;".repeat(20));
        x.ignite(1);
        x.pass(600);
    }

    /** Tanks, points, entries, engines, letters and, by a text of 100 characters, the text: none can take more. */
    private static void fill(PropellantGauge x, String text) {
        for (int t = 0; t < 4; t++) {
            x.addTank(1000 + t, 10 * t);
            for (int p = 1; p <= 8; p++) {
                x.addPoint(t, 1000 * p, p < 8 ? 5000 * p + t : 40000);
            }
        }
        for (int n = 0; n < 26; n++) {
            x.load(n % 4, 20000 + n, n);
        }
        for (char name = 'c'; name <= 'h'; name++) {
            Checks.engine(x, String.valueOf(name), 4 + name - 'c', 50);
        }
        x.setValve(2, 1, 0);
        x.setLeak(3, 1);
        Checks.spell(x, "zzzzzz");
        Checks.write(x, text);
    }
}
