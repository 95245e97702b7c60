import java.util.List;
import java.util.function.Consumer;
import java.util.function.ToLongFunction;
import java.util.regex.Matcher;
import java.util.regex.Pattern;

/** The forms of the commands at all their edges, and that each command does what its method does. */
public final class PropellantGaugeTexts {
    private static final Checks CHECKS = new Checks("texts");
    private static final String NAME = "[a-z]{1,6}";
    // 1 to 4 digits from 1 to 2000, and 1 to 5 digits from 0 to 10000.
    private static final String MS = "(?!0+(?![0-9]))(?:[01]?[0-9]{1,3}|2000)";
    private static final String LEVEL = "(?:0?[0-9]{1,4}|10000)";
    private static final Pattern COMMAND = Pattern.compile("(?:start " + NAME + "|stop|wait " + MS + "|burn " + NAME + " "
            + MS + "|(?:open|close) " + NAME + " [0-9]|read [0-9] " + LEVEL + ");");

    public static void main(String[] args) {
        String[] commands = {"start abcdef;", "start z;", "stop;", "wait 2000;", "wait 1;", "burn abcdef 2000;",
            "burn a 1;", "open a 0;", "open abcdef 9;", "close m 3;", "read 0 0;", "read 9 10000;"};
        for (String command : commands) {
            everyChangeOfOneCharacter(command);
        }
        everyNumber();
        namesByTheirLength();
        positionOfTheFault();
        everyCommandIsItsMethod();
        burnIsItsThreeMethods();
        aBurnAtTheTime0();
        theExecutionEnds();
        plannedIsWhatExecuteBooks();
        CHECKS.finish();
    }

    /** Inserts, removes and replaces each character by all that can be typed. */
    private static void everyChangeOfOneCharacter(String command) {
        dueFault(command);
        for (int at = 0; at <= command.length(); at++) {
            String before = command.substring(0, at);
            String from = command.substring(at);
            for (char c = 32; c <= 126; c++) {
                dueFault(before + c + from);
                if (!from.isEmpty()) {
                    dueFault(before + c + from.substring(1));
                }
            }
            dueFault(before);
            if (!from.isEmpty()) {
                dueFault(before + from.substring(1));
                dueFault(before + from.substring(1) + "stop;");
            }
        }
    }

    private static void everyNumber() {
        PropellantGauge x = new PropellantGauge();
        for (int n = 0; n <= 10050; n++) {
            // A new object now and then, so that none is used for too many calls.
            x = n % 10 == 0 ? new PropellantGauge() : x;
            Checks.write(x, "wait " + n + ";");
            due("fault of wait " + n, x.fault(), n >= 1 && n <= 2000 ? -4 : 0);
            Checks.write(x, "read 0 " + n + ";");
            due("fault of read 0 " + n, x.fault(), n <= 10000 ? -4 : 0);
        }
        String[] right = {"wait 01;", "wait 001;", "wait 0001;", "burn a 0001;", "read 0 00;", "read 0 00000;",
            "read 0 01000;", "read 0 09999;", "read 0 00001;"};
        for (String text : right) {
            dueFault(text, -4);
        }
        String[] wrong = {"wait 00;", "wait 0000;", "wait 00001;", "wait 00000;", "wait 02000;", "burn a 0000;", "burn a 02000;",
            "burn a 20000;", "read 0 010000;", "read 0 000000;", "read 0 10001;", "read 0 99999;", "read 0 100000;",
            "read 10 0;", "read 00 0;", "open a 00;", "open a 10;", "close a 01;", "wait 4294967297;", "wait -1;",
            "wait +1;", "wait 1.0;", "read -1 0;", "read 0 -0;"};
        for (String text : wrong) {
            dueFault(text, 0);
        }
    }

    private static void namesByTheirLength() {
        String letters = "abcdefgh";
        for (int n = 0; n <= 8; n++) {
            String name = letters.substring(0, n);
            int fault = n >= 1 && n <= 6 ? -4 : 0;
            dueFault("start " + name + ";", fault);
            dueFault("burn " + name + " 5;", fault);
            dueFault("open " + name + " 5;", fault);
            dueFault("close " + name + " 5;", fault);
        }
        for (String word : new String[] {"start", "stop", "wait", "burn", "open", "close", "read"}) {
            dueFault("start " + word + ";", -4);
            dueFault("burn " + word + " 1;", -4);
            dueFault(word, 0);
            dueFault(word + " ;", 0);
        }
    }

    private static void positionOfTheFault() {
        dueFault("", -4);
        dueFault(";", 0);
        dueFault(" ", 0);
        dueFault("stop;;", 5);
        dueFault("stop; ", 5);
        dueFault("stop; stop;", 5);
        dueFault("stop ;stop;", 0);
        dueFault("stop;stop", 5);
        dueFault("stop;stop;stop", 10);
        dueFault("wait 1;wait 0;wait 2001;", 7);
        dueFault("wait 1;wait 2;wait 2001;", 14);
        dueFault("x;stop;", 0);
        dueFault("stop;".repeat(19) + "stop", 95);
        dueFault("stop;".repeat(19) + "stop;", -4);
        dueFault("stop;".repeat(19) + ";", 95);
        dueFault("wait 2000;".repeat(9) + "read 0 10;", -4);
        dueFault("wait 2000;".repeat(9) + "read 0 100", 90);
        dueFault("wait 2000;".repeat(9) + "start abcd", 90);
        dueFault("wait 12;".repeat(12) + "stop", 96);
        dueFault("stop;".repeat(19) + "stopp", 95);
        dueFault("x".repeat(100), 0);
        dueFault(" ".repeat(100), 0);
        dueFault("stop;start " + "a".repeat(89), 5);
        dueFault("stop;wait " + "0".repeat(90), 5);
        // Whether engines and tanks exist does not matter.
        dueFault("start zz;burn yy 7;open xx 9;close ww 8;read 7 1;", -4);
    }

    // ---- execution

    private static void everyCommandIsItsMethod() {
        same("start a;", States::resting, x -> x.ignite(0));
        same("start abc;", States::resting, x -> x.ignite(1));
        same("stop;", States::burning, x -> x.cutoff());
        same("stop;", States::starved, x -> x.cutoff());
        for (Consumer<PropellantGauge> state : List.<Consumer<PropellantGauge>>of(States::resting, States::burning,
                States::starved)) {
            same("wait 1;", state, x -> x.pass(1));
            same("wait 0030;", state, x -> x.pass(30));
            same("wait 2000;", state, x -> x.pass(2000));
            same("read 0 0;", state, x -> x.read(0, 0));
            same("read 0 10000;", state, x -> x.read(0, 10000));
            same("read 0 04875;", state, x -> x.read(0, 4875));
            same("open abc 0;", state, x -> x.setValve(1, 0, 1));
            same("open abc 1;", state, x -> x.setValve(1, 1, 1));
            same("close abc 0;", state, x -> x.setValve(1, 0, 0));
            same("close abc 1;", state, x -> x.setValve(1, 1, 0));
        }
        same("open a 0;", States::resting, x -> x.setValve(0, 0, 1));
        same("close a 1;", States::resting, x -> x.setValve(0, 1, 0));
    }

    private static void burnIsItsThreeMethods() {
        for (int ms : new int[] {1, 9, 10, 2000}) {
            for (int e = 0; e < 2; e++) {
                int engine = e;
                same("burn " + (e == 0 ? "a" : "abc") + " " + ms + ";", States::resting, x -> {
                    x.ignite(engine);
                    x.pass(ms);
                    return x.cutoff();
                });
            }
        }
    }

    private static void aBurnAtTheTime0() {
        PropellantGauge x = new PropellantGauge();
        x.addTank(1000, 0);
        Checks.engine(x, "a", 1, 0);
        dueExecuted(x, "start a;stop;", 2);
        dueExecuted(x, "burn a 1;", 1);
        due("a burn at the time 0 has ended", x.time(), 1);
    }

    /** A text of one command and the call have the same effect. */
    private static void same(String command, Consumer<PropellantGauge> state, ToLongFunction<PropellantGauge> call) {
        PropellantGauge byText = new PropellantGauge();
        PropellantGauge byCall = new PropellantGauge();
        for (PropellantGauge x : new PropellantGauge[] {byText, byCall}) {
            state.accept(x);
            Checks.write(x, command);
        }
        due("execute '" + command + "'", byText.execute(), 1);
        due("the call of '" + command + "' is no error", call.applyAsLong(byCall) >= 0 ? 1 : 0, 1);
        due("'" + command + "' is its method", Snapshot.of(byText).equals(Snapshot.of(byCall)) ? 1 : 0, 1);
    }

    private static void theExecutionEnds() {
        PropellantGauge x = new PropellantGauge();
        States.resting(x);
        int start = x.time();
        dueExecuted(x, "wait 1;stop;wait 1;", 1);
        dueExecuted(x, "wait 1;wait 1;stop;", 2);
        dueExecuted(x, "stop;wait 1;", 0);
        due("what stands before the end has been done", x.time(), start + 3);
        dueExecuted(x, "start a;wait 1;start a;stop;", 2);
        due("the burn goes on", x.burn(0), 0);
        dueExecuted(x, "stop;", 1);
        dueExecuted(x, "start a;stop;start a;stop;", 4);
        dueExecuted(x, "read 0 1;read 1 1;read 0 1;", 1);
        dueExecuted(x, "close a 0;close a 1;start a;", 2);
        dueExecuted(x, "close a 0;burn a 1;", 1);
        dueExecuted(x, "open a 1;burn a 1;open a 2;", 2);
        due("the text stays", x.clearText(), 27);
        due("an empty text", x.execute(), 0);
        for (int i = 0; i < 3; i++) {
            x.type("go;".charAt(i));
        }
        due("a fault", x.execute(), -2);
    }

    private static void plannedIsWhatExecuteBooks() {
        String[] texts = {"", "wait 9;", "start a;", "start a;wait 1;", "burn a 9;", "burn a 1;burn abc 1;", "burn a 2000;",
            "burn a 2000;burn abc 2000;", "burn a 9;stop;burn a 9;", "start a;wait 9;burn a 9;", "stop;burn a 9;",
            "close a 0;burn a 9;open a 0;burn a 9;", "start b;burn a 9;", "burn a 3;read 1 5;burn a 4;",
            "start a;wait 20;read 0 4800;wait 5;stop;", "stop;wait 9;", "wait 9;stop;wait 9;"};
        for (String text : texts) {
            planned("resting", States::resting, text);
            planned("burning", States::burning, text);
            planned("starved", States::starved, text);
        }
    }

    private static void planned(String name, Consumer<PropellantGauge> state, String text) {
        PropellantGauge x = new PropellantGauge();
        state.accept(x);
        Checks.write(x, text);
        long before = x.used(0) + x.used(1);
        long planned = x.planned();
        due(name + ": planned '" + text + "' again", x.planned(), planned);
        x.execute();
        due(name + ": planned '" + text + "'", planned, x.used(0) + x.used(1) - before);
    }

    // ---- helpers

    private static void dueExecuted(PropellantGauge x, String text, int want) {
        Checks.write(x, text);
        due("execute '" + text + "'", x.execute(), want);
    }

    private static void dueFault(String text) {
        Matcher m = COMMAND.matcher(text);
        int at = 0;
        while (m.find(at) && m.start() == at) {
            at = m.end();
        }
        dueFault(text, at == text.length() ? -4 : at);
    }

    private static void dueFault(String text, int want) {
        PropellantGauge x = new PropellantGauge();
        Checks.write(x, text);
        due("fault of '" + text + "'", x.fault(), want);
        due("execute '" + text + "' is not possible", x.execute() == -2 ? 1 : 0, want == -4 ? 0 : 1);
        due("planned '" + text + "' is not possible", x.planned() == -2 ? 1 : 0, want == -4 ? 0 : 1);
        due("length of '" + text + "'", x.clearText(), text.length());
    }

    private static void due(String call, long got, long want) {
        CHECKS.due(call, got, want);
    }
}
