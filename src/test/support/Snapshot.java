import java.util.ArrayList;
import java.util.List;

/**
 * All that later calls can tell of an object. Some of it shows only in calls that change the object (the
 * settings, the name buffer, the valves), so an object is of no further use behind its snapshot.
 */
final class Snapshot {
    private final PropellantGauge x;
    private final int tanks;
    private final int engines;
    private final List<String> answers = new ArrayList<>();

    private Snapshot(PropellantGauge x) {
        this.x = x;
        tanks = x.tankCount();
        int n = 0;
        while (n < 7 && x.used(n) >= 0) {
            n++;
        }
        engines = n;
    }

    static List<String> of(PropellantGauge x) {
        Snapshot s = new Snapshot(x);
        s.time();
        s.ledger();
        s.tanks();
        s.engines();
        s.nameAndText();
        s.settings();
        s.later();
        s.valves();
        return s.answers;
    }

    private void add(String call, long answer) {
        answers.add(call + " = " + answer);
    }

    private void time() {
        add("time()", x.time());
        add("tankCount()", tanks);
        for (int what = 0; what < 4; what++) {
            add("burn(" + what + ")", x.burn(what));
        }
    }

    private void ledger() {
        int entries = x.entryCount();
        add("entryCount()", entries);
        for (int index = 0; index < entries; index++) {
            for (int what = 0; what < 4; what++) {
                add("entry(" + index + ", " + what + ")", x.entry(index, what));
            }
        }
    }

    private void tanks() {
        for (int t = 0; t < tanks; t++) {
            for (int what = 0; what < 6; what++) {
                add("mass(" + t + ", " + what + ")", x.mass(t, what));
            }
            add("weight(" + t + ")", x.weight(t));
            add("drift(" + t + ")", x.drift(t));
            add("volume(" + t + ", 3333)", x.volume(t, 3333));
            add("volume(" + t + ", 10000)", x.volume(t, 10000));
        }
    }

    private void engines() {
        add("engines", engines);
        for (int e = 0; e < engines; e++) {
            add("used(" + e + ")", x.used(e));
            add("delivered(" + e + ")", x.delivered(e));
            add("longestBurn(" + e + ")", x.longestBurn(e));
        }
    }

    private void nameAndText() {
        add("fault()", x.fault());
        add("planned()", x.planned());
        add("engineNamed()", x.engineNamed());
        add("letter(99)", x.letter(99));
        add("engineNamed() behind a letter", x.engineNamed());
        add("execute()", x.execute());
        add("time() behind the text", x.time());
        add("clearText()", x.clearText());
    }

    private void settings() {
        add("set(0, 0)", x.set(0, 0));
        add("set(1, 9)", x.set(1, 9));
        add("set(2, 20)", x.set(2, 20));
        for (int t = 0; t < tanks; t++) {
            int leak = x.setLeak(t, 0);
            add("setLeak(" + t + ", 0)", leak);
            x.setLeak(t, Math.max(0, leak));
            add("setGaugeVariance(" + t + ", 1)", x.setGaugeVariance(t, 1));
        }
    }

    /** What a burn that goes on still does, and how it ends. */
    private void later() {
        add("pass(3)", x.pass(3));
        add("cutoff()", x.cutoff());
        add("entry(0, 3) of the end", x.entry(0, 3));
        for (int t = 0; t < tanks; t++) {
            add("mass(" + t + ", 0) later", x.mass(t, 0));
            add("mass(" + t + ", 1) later", x.mass(t, 1));
            add("mass(" + t + ", 5) later", x.mass(t, 5));
        }
    }

    /** The valve of tank 0 shows in what a burn takes from it, the others in the answer when it is opened. */
    private void valves() {
        for (int e = 0; e < engines; e++) {
            add("ignite(" + e + ")", x.ignite(e));
            x.pass(1);
            x.cutoff();
            add("mass(0, 1) behind a burn of " + e, x.mass(0, 1));
            add("setValve(" + e + ", 0, 1)", x.setValve(e, 0, 1));
        }
    }
}
