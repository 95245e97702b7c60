/** The five examples of the document's section "Terms". */
public final class PropellantGaugeExamples {
    private static final Checks CHECKS = new Checks("examples");

    public static void main(String[] args) {
        burnVarianceAndUsableMass();
        readingWhenSettled();
        twoTanksShareTheFlow();
        starving();
        errors();
        CHECKS.finish();
    }

    private static void burnVarianceAndUsableMass() {
        PropellantGauge x = new PropellantGauge();
        due("1: addTank(1000, 50)", x.addTank(1000, 50), 0);
        due("1: load(0, 1000, 20)", x.load(0, 1000, 20), 0);
        due("1: letter(97)", x.letter(97), 1);
        due("1: addEngine(7, 100)", x.addEngine(7, 100), 0);
        due("1: ignite(0)", x.ignite(0), 0);
        due("1: pass(10)", x.pass(10), 10);
        due("1: cutoff()", x.cutoff(), 10);
        due("1: mass(0, 2)", x.mass(0, 2), 930);
        due("1: mass(0, 5)", x.mass(0, 5), 449);
        due("1: mass(0, 3)", x.mass(0, 3), 838);
    }

    private static void readingWhenSettled() {
        PropellantGauge x = new PropellantGauge();
        due("2: addTank(1000, 0)", x.addTank(1000, 0), 0);
        due("2: addPoint(0, 0, 0)", x.addPoint(0, 0, 0), 1);
        due("2: addPoint(0, 1000, 5000)", x.addPoint(0, 1000, 5000), 2);
        due("2: volume(0, 500)", x.volume(0, 500), 2500);
        due("2: load(0, 3000, 1000)", x.load(0, 3000, 1000), 0);
        due("2: letter(97)", x.letter(97), 1);
        due("2: addEngine(1, 0)", x.addEngine(1, 0), 0);
        due("2: set(0, 5)", x.set(0, 5), 500);
        due("2: ignite(0)", x.ignite(0), 0);
        due("2: read(0, 500)", x.read(0, 500), 3);
        due("2: pass(5)", x.pass(5), 5);
        due("2: read(0, 500)", x.read(0, 500), 1);
        due("2: mass(0, 2)", x.mass(0, 2), 2747);
        due("2: entry(0, 1)", x.entry(0, 1), 2);
    }

    private static void twoTanksShareTheFlow() {
        PropellantGauge x = new PropellantGauge();
        due("3: addTank(1000, 0)", x.addTank(1000, 0), 0);
        due("3: addTank(1000, 0)", x.addTank(1000, 0), 1);
        due("3: load(0, 5, 0)", x.load(0, 5, 0), 0);
        due("3: load(1, 100, 0)", x.load(1, 100, 0), 0);
        due("3: letter(98)", x.letter(98), 1);
        due("3: addEngine(15, 0)", x.addEngine(15, 0), 0);
        due("3: ignite(0)", x.ignite(0), 0);
        due("3: pass(2)", x.pass(2), 2);
        due("3: mass(0, 0)", x.mass(0, 0), 0);
        due("3: mass(1, 0)", x.mass(1, 0), 78);
    }

    private static void starving() {
        PropellantGauge x = new PropellantGauge();
        due("4: addTank(1000, 0)", x.addTank(1000, 0), 0);
        due("4: letter(97)", x.letter(97), 1);
        due("4: addEngine(1, 0)", x.addEngine(1, 0), 0);
        due("4: ignite(0)", x.ignite(0), 0);
        due("4: pass(1)", x.pass(1), 1);
        due("4: burn(3)", x.burn(3), 1);
        due("4: entry(0, 1)", x.entry(0, 1), 4);
    }

    private static void errors() {
        PropellantGauge x = new PropellantGauge();
        due("5: pass(0)", x.pass(0), -1);
        due("5: cutoff()", x.cutoff(), -2);
        due("5: entry(0, 0)", x.entry(0, 0), -1000000000000000000L);
        due("5: engineNamed()", x.engineNamed(), -4);
        due("5: addEngine(5, 5)", x.addEngine(5, 5), -2);
    }

    private static void due(String call, long got, long want) {
        CHECKS.due(call, got, want);
    }
}
