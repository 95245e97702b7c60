/** For each promise of the document: ordinary inputs, the edges that the document names, and wrong inputs. */
public final class PropellantGaugePromises {
    private static final Checks CHECKS = new Checks("promises");
    private static final int MIN = Integer.MIN_VALUE;
    private static final int MAX = Integer.MAX_VALUE;
    private static final long ERROR = -1000000000000000000L;

    public static void main(String[] args) {
        constants();
        promise1NewObject();
        promise2AddTank();
        promise3AddPoint();
        promise4Volume();
        promise5Load();
        promise6SetLeak();
        promise7SetGaugeVariance();
        promise8TankCount();
        promise9Mass();
        promise10Set();
        promise11Letter();
        promise12AddEngine();
        promise13EngineNamed();
        promise14SetValve();
        promise15Used();
        promise16Delivered();
        promise17Ignite();
        promise18Cutoff();
        promise19Pass();
        promise20Time();
        promise21Burn();
        promise22Read();
        promise23Weight();
        promise24EntryCount();
        promise25Entry();
        promise26Type();
        promise27ClearText();
        promise28Fault();
        promise29Execute();
        promise30LongestBurn();
        promise31Planned();
        promise32Drift();
        CHECKS.finish();
    }

    private static void constants() {
        due("INVALID_ARGUMENT", PropellantGauge.INVALID_ARGUMENT, -1);
        due("NOT_POSSIBLE", PropellantGauge.NOT_POSSIBLE, -2);
        due("CAPACITY_EXCEEDED", PropellantGauge.CAPACITY_EXCEEDED, -3);
        due("NOT_FOUND", PropellantGauge.NOT_FOUND, -4);
        due("ERROR", PropellantGauge.ERROR, ERROR);
        due("ACCEPTED", PropellantGauge.ACCEPTED, 1);
        due("OUTLIER", PropellantGauge.OUTLIER, 2);
        due("UNSETTLED", PropellantGauge.UNSETTLED, 3);
    }

    // ---- tanks

    private static void promise1NewObject() {
        PropellantGauge x = new PropellantGauge();
        due("1 tankCount", x.tankCount(), 0);
        due("1 time", x.time(), 0);
        due("1 used(0)", x.used(0), -1);
        due("1 entryCount", x.entryCount(), 0);
        due("1 burn(0)", x.burn(0), -1);
        due("1 burn(1)", x.burn(1), 0);
        due("1 burn(2)", x.burn(2), 0);
        due("1 burn(3)", x.burn(3), 0);
        due("1 clearText", x.clearText(), 0);
        due("1 set settling", x.set(0, 0), 500);
        due("1 set gate", x.set(1, 1), 9);
        due("1 set margin", x.set(2, 0), 20);
        x.addTank(1, 0);
        PropellantGauge other = new PropellantGauge();
        due("1 objects are apart", other.tankCount(), 0);
    }

    private static void promise2AddTank() {
        PropellantGauge x = new PropellantGauge();
        int[][] wrong = {{0, 0}, {3001, 0}, {MIN, 0}, {MAX, 0}, {1, -1}, {1, 1000000001}, {1, MIN}, {1, MAX}};
        for (int[] w : wrong) {
            due("2 addTank(" + w[0] + ", " + w[1] + ")", x.addTank(w[0], w[1]), -1);
        }
        due("2 none was added", x.tankCount(), 0);
        due("2 least", x.addTank(1, 0), 0);
        due("2 greatest", x.addTank(3000, 1000000000), 1);
        due("2 residual", x.mass(1, 4), 1000000000);
        due("2 empty table", x.volume(0, 0), -4);
        for (int what = 0; what <= 5; what++) {
            due("2 empty tank, mass " + what, x.mass(0, what), 0);
        }
        due("2 no leak", x.setLeak(0, 0), 0);
        due("2 gauge variance", x.setGaugeVariance(0, 1), 1000000);
        engine(x, "a", 1, 0);
        x.ignite(0);
        due("2 in a burn", x.addTank(1, 0), -2);
        due("2 in a burn, wrong", x.addTank(0, 0), -1);
        due("2 none was added in a burn", x.tankCount(), 2);
        x.cutoff();
        due("2 third", x.addTank(1, 0), 2);
        due("2 fourth", x.addTank(1, 0), 3);
        due("2 fifth", x.addTank(1, 0), -3);
        due("2 fifth, wrong", x.addTank(3001, 0), -1);
        x.ignite(0);
        due("2 fifth in a burn", x.addTank(1, 0), -2);
        due("2 count", x.tankCount(), 4);
    }

    private static void promise3AddPoint() {
        PropellantGauge x = new PropellantGauge();
        due("3 no tank", x.addPoint(0, 0, 0), -1);
        x.addTank(1000, 0);
        int[][] wrong = {{-1, 0, 0}, {1, 0, 0}, {MIN, 0, 0}, {MAX, 0, 0}, {0, -1, 0}, {0, 10001, 0}, {0, MIN, 0},
            {0, MAX, 0}, {0, 0, -1}, {0, 0, 1000000001}, {0, 0, MIN}, {0, 0, MAX}};
        for (int[] w : wrong) {
            due("3 addPoint(" + w[0] + ", " + w[1] + ", " + w[2] + ")", x.addPoint(w[0], w[1], w[2]), -1);
        }
        due("3 table is still empty", x.volume(0, 0), -4);
        due("3 first", x.addPoint(0, 10, 100), 1);
        due("3 same level", x.addPoint(0, 10, 200), -1);
        due("3 lower level", x.addPoint(0, 9, 200), -1);
        due("3 smaller volume", x.addPoint(0, 11, 99), -1);
        due("3 same volume", x.addPoint(0, 11, 100), 2);
        due("3 not changed by errors", x.volume(0, 10000), 100);
        for (int n = 3; n <= 8; n++) {
            due("3 point " + n, x.addPoint(0, 10 * n, 100 * n), n);
        }
        due("3 ninth", x.addPoint(0, 10000, 1000000000), -3);
        due("3 ninth, level not above", x.addPoint(0, 80, 1000), -1);
        due("3 ninth, volume below", x.addPoint(0, 90, 799), -1);
        due("3 not changed by the ninth", x.volume(0, 10000), 800);
        x.addTank(1000, 0);
        due("3 tables are apart", x.addPoint(1, 0, 0), 1);
        due("3 greatest", x.addPoint(1, 10000, 1000000000), 2);
        engine(x, "a", 1, 0);
        x.addTank(1000, 0);
        x.ignite(0);
        due("3 in a burn", x.addPoint(2, 0, 0), 1);
    }

    private static void promise4Volume() {
        PropellantGauge x = new PropellantGauge();
        due("4 no tank", x.volume(0, 0), -1);
        x.addTank(1000, 0);
        due("4 empty table", x.volume(0, 0), -4);
        due("4 empty table, wrong level", x.volume(0, 10001), -1);
        x.addPoint(0, 100, 7);
        due("4 one point, below", x.volume(0, 0), 7);
        due("4 one point, at", x.volume(0, 100), 7);
        due("4 one point, above", x.volume(0, 10000), 7);
        x.addPoint(0, 103, 9);
        x.addPoint(0, 200, 9);
        x.addPoint(0, 10000, 1000000000);
        due("4 below the first", x.volume(0, 99), 7);
        due("4 at the first", x.volume(0, 100), 7);
        due("4 rounded down a", x.volume(0, 101), 7);
        due("4 rounded down b", x.volume(0, 102), 8);
        due("4 at the second", x.volume(0, 103), 9);
        due("4 flat", x.volume(0, 150), 9);
        due("4 at the third", x.volume(0, 200), 9);
        due("4 long product", x.volume(0, 9999), 9 + 999999991L * 9799 / 9800);
        due("4 at the last", x.volume(0, 10000), 1000000000);
        due("4 level -1", x.volume(0, -1), -1);
        due("4 level 10001", x.volume(0, 10001), -1);
        due("4 tank -1", x.volume(-1, 0), -1);
        due("4 tank 1", x.volume(1, 0), -1);
        x.addTank(1000, 0);
        x.addPoint(1, 10, 5);
        x.addPoint(1, 20, 25);
        due("4 above the last", x.volume(1, 21), 25);
        due("4 half", x.volume(1, 15), 15);
        x.addPoint(1, 21, 40);
        x.addPoint(1, 22, 41);
        due("4 levels next to one another, lower", x.volume(1, 20), 25);
        due("4 levels next to one another, upper", x.volume(1, 21), 40);
        due("4 above the last again", x.volume(1, 23), 41);
    }

    private static void promise5Load() {
        PropellantGauge x = new PropellantGauge();
        due("5 no tank", x.load(0, 0, 0), -1);
        x.addTank(1000, 0);
        x.addTank(1000, 0);
        int[][] wrong = {{-1, 0, 0}, {2, 0, 0}, {MIN, 0, 0}, {MAX, 0, 0}, {0, -1, 0}, {0, 1000000001, 0},
            {0, MIN, 0}, {0, MAX, 0}, {0, 0, -1}, {0, 0, 1000001}, {0, 0, MIN}, {0, 0, MAX}};
        for (int[] w : wrong) {
            due("5 load(" + w[0] + ", " + w[1] + ", " + w[2] + ")", x.load(w[0], w[1], w[2]), -1);
        }
        due("5 errors leave no entry", x.entryCount(), 0);
        due("5 first", x.load(1, 1000000000, 1000000), 0);
        due("5 true", x.mass(1, 0), 1000000000);
        due("5 booked", x.mass(1, 1), 1000000000);
        due("5 estimated", x.mass(1, 2), 1000000000);
        due("5 variance", x.mass(1, 5), 1000000000000L);
        due("5 the other tank", x.mass(0, 0), 0);
        dueEntry(x, "5 entry", 0, 5, 1, 1000000000);
        x.setLeak(1, 10);
        x.pass(7);
        due("5 previous true mass", x.load(1, 30, 3), 999999930);
        due("5 booked again", x.mass(1, 1), 30);
        due("5 estimated again", x.mass(1, 2), 30);
        due("5 variance again", x.mass(1, 5), 9);
        dueEntry(x, "5 entry again", 7, 5, 1, 30);
        due("5 leak stays", x.setLeak(1, 0), 10);
        engine(x, "a", 1, 0);
        x.ignite(0);
        due("5 in a burn", x.load(0, 1, 1), -2);
        due("5 in a burn, wrong", x.load(2, 1, 1), -1);
        due("5 no entry in a burn", x.entryCount(), 2);
        due("5 not loaded in a burn", x.mass(0, 0), 0);
        x.cutoff();
        due("5 after the burn", x.load(0, 0, 0), 0);
    }

    private static void promise6SetLeak() {
        PropellantGauge x = new PropellantGauge();
        due("6 no tank", x.setLeak(0, 0), -1);
        x.addTank(1000, 0);
        x.addTank(1000, 0);
        x.load(0, 10000, 0);
        x.load(1, 2500, 0);
        int[][] wrong = {{-1, 0}, {2, 0}, {MIN, 0}, {MAX, 0}, {0, -1}, {0, 1001}, {0, MIN}, {0, MAX}};
        for (int[] w : wrong) {
            due("6 setLeak(" + w[0] + ", " + w[1] + ")", x.setLeak(w[0], w[1]), -1);
        }
        due("6 initially", x.setLeak(0, 3), 0);
        due("6 previous", x.setLeak(0, 4), 3);
        due("6 greatest", x.setLeak(1, 1000), 0);
        x.pass(2);
        due("6 leaked", x.mass(0, 0), 9992);
        due("6 leaked, the other", x.mass(1, 0), 500);
        due("6 not booked", x.mass(0, 1), 10000);
        due("6 not estimated", x.mass(0, 2), 10000);
        x.pass(1);
        due("6 not below 0", x.mass(1, 0), 0);
        engine(x, "a", 10, 0);
        x.ignite(0);
        due("6 in a burn", x.setLeak(0, 0), 4);
        x.pass(1);
        due("6 no more leak", x.mass(0, 0), 9978);
        leakComesBeforeTheEngine();
    }

    private static void leakComesBeforeTheEngine() {
        PropellantGauge x = new PropellantGauge();
        x.addTank(1000, 0);
        x.load(0, 10, 0);
        x.setLeak(0, 4);
        engine(x, "a", 8, 0);
        x.ignite(0);
        x.pass(1);
        due("6 the engine gets what the leak leaves", x.delivered(0), 6);
        due("6 it has not starved", x.burn(3), 0);
        x.cutoff();
        x.load(0, 4, 0);
        x.ignite(0);
        x.pass(1);
        due("6 the leak leaves nothing", x.delivered(0), 6);
        due("6 it has starved", x.burn(3), 1);
    }

    private static void promise7SetGaugeVariance() {
        PropellantGauge x = new PropellantGauge();
        due("7 no tank", x.setGaugeVariance(0, 1), -1);
        x.addTank(1000, 0);
        x.addTank(1000, 0);
        long[] wrong = {0, -1, 1000000000001L, Long.MIN_VALUE, Long.MAX_VALUE};
        for (long w : wrong) {
            due("7 setGaugeVariance(0, " + w + ")", x.setGaugeVariance(0, w), -1);
        }
        int[] wrongTanks = {-1, 2, MIN, MAX};
        for (int w : wrongTanks) {
            due("7 setGaugeVariance(" + w + ", 1)", x.setGaugeVariance(w, 1), -1);
        }
        due("7 initially", x.setGaugeVariance(0, 1000000000000L), 1000000);
        due("7 previous", x.setGaugeVariance(0, 1), 1000000000000L);
        due("7 previous least", x.setGaugeVariance(0, 300), 1);
        due("7 the other tank", x.setGaugeVariance(1, 5), 1000000);
        x.load(0, 0, 10);
        due("7 weight by it", x.weight(0), 250);
    }

    private static void promise8TankCount() {
        PropellantGauge x = new PropellantGauge();
        for (int n = 0; n < 4; n++) {
            due("8 tankCount", x.tankCount(), n);
            x.addTank(1, 0);
        }
        due("8 four", x.tankCount(), 4);
        x.addTank(1, 0);
        due("8 still four", x.tankCount(), 4);
    }

    private static void promise9Mass() {
        PropellantGauge x = new PropellantGauge();
        due("9 no tank", x.mass(0, 0), -1);
        x.addTank(1000, 300);
        x.load(0, 1000, 19);
        due("9 true", x.mass(0, 0), 1000);
        due("9 booked", x.mass(0, 1), 1000);
        due("9 estimated", x.mass(0, 2), 1000);
        due("9 usable", x.mass(0, 3), 1000 - 300 - 38);
        due("9 residual", x.mass(0, 4), 300);
        due("9 variance", x.mass(0, 5), 361);
        int[][] wrong = {{0, -1}, {0, 6}, {0, MIN}, {0, MAX}, {-1, 0}, {1, 0}, {MIN, 0}, {MAX, 0}};
        for (int[] w : wrong) {
            due("9 mass(" + w[0] + ", " + w[1] + ")", x.mass(w[0], w[1]), -1);
        }
        x.set(2, 7);
        due("9 reserve rounded down", x.mass(0, 3), 1000 - 300 - 13);
        x.set(2, 10);
        x.load(0, 1000, 0);
        due("9 root of 0", x.mass(0, 3), 700);
        x.load(0, 1000, 1);
        due("9 root of 1", x.mass(0, 3), 699);
        x.load(0, 1000, 19);
        x.set(2, 0);
        due("9 no margin", x.mass(0, 3), 700);
        x.set(2, 100);
        due("9 greatest margin", x.mass(0, 3), 510);
        x.load(0, 490, 19);
        due("9 usable is just 0", x.mass(0, 3), 0);
        x.load(0, 489, 19);
        due("9 usable is at least 0", x.mass(0, 3), 0);
        x.load(0, 1000000000, 1000000);
        due("9 great variance", x.mass(0, 3), 1000000000 - 300 - 10000000);
        rootIsRoundedDown();
    }

    private static void rootIsRoundedDown() {
        PropellantGauge x = new PropellantGauge();
        x.addTank(1000, 0);
        engine(x, "a", 1000, 500);
        x.load(0, 1000000, 0);
        x.set(2, 10);
        burnFor(x, 0, 1);
        due("9 variance of a burn", x.mass(0, 5), 250000);
        due("9 root of a square", x.mass(0, 3), 999000 - 500);
        PropellantGauge y = new PropellantGauge();
        y.addTank(1000, 0);
        engine(y, "a", 24, 500);
        y.load(0, 1000, 9);
        y.set(2, 10);
        burnFor(y, 0, 1);
        due("9 variance 225", y.mass(0, 5), 225);
        due("9 root of 225", y.mass(0, 3), 976 - 15);
        y.load(0, 1000, 5);
        burnFor(y, 0, 1);
        due("9 variance 169", y.mass(0, 5), 169);
        burnFor(y, 0, 1);
        due("9 variance 313", y.mass(0, 5), 313);
        due("9 root of 313", y.mass(0, 3), 952 - 17);
    }

    // ---- settings

    private static void promise10Set() {
        PropellantGauge x = new PropellantGauge();
        int[][] wrong = {{-1, 1}, {3, 1}, {MIN, 1}, {MAX, 1}, {0, -1}, {0, 5001}, {1, 0}, {1, 101}, {1, MIN},
            {2, -1}, {2, 101}, {2, MAX}, {0, MIN}, {0, MAX}};
        for (int[] w : wrong) {
            due("10 set(" + w[0] + ", " + w[1] + ")", x.set(w[0], w[1]), -1);
        }
        due("10 settling time", x.set(0, 5000), 500);
        due("10 settling time 0", x.set(0, 0), 5000);
        due("10 settling time again", x.set(0, 1), 0);
        due("10 gate", x.set(1, 100), 9);
        due("10 gate 1", x.set(1, 1), 100);
        due("10 gate again", x.set(1, 50), 1);
        due("10 margin", x.set(2, 100), 20);
        due("10 margin 0", x.set(2, 0), 100);
        due("10 margin again", x.set(2, 50), 0);
        x.addTank(1000, 0);
        engine(x, "a", 1, 0);
        x.ignite(0);
        due("10 in a burn", x.set(0, 3), 1);
    }

    // ---- engines

    private static void promise11Letter() {
        PropellantGauge x = new PropellantGauge();
        int[] wrong = {96, 123, 65, 0, -1, MIN, MAX};
        for (int w : wrong) {
            due("11 letter(" + w + ")", x.letter(w), -1);
        }
        due("11 a", x.letter(97), 1);
        due("11 z", x.letter(122), 2);
        for (int n = 3; n <= 6; n++) {
            due("11 letter " + n, x.letter(98), n);
        }
        due("11 seventh", x.letter(98), -3);
        due("11 seventh, wrong", x.letter(96), -1);
        due("11 the name is kept", x.addEngine(1, 0), 0);
        due("11 empty again", x.letter(97), 1);
        Checks.spell(x, "zbbbb");
        due("11 the name was azbbbb", x.engineNamed(), 0);
    }

    private static void promise12AddEngine() {
        PropellantGauge x = new PropellantGauge();
        due("12 empty buffer", x.addEngine(1, 0), -2);
        due("12 empty buffer, wrong", x.addEngine(0, 0), -1);
        x.letter('a');
        int[][] wrong = {{0, 0}, {100001, 0}, {MIN, 0}, {MAX, 0}, {1, -1}, {1, 501}, {1, MIN}, {1, MAX}};
        for (int[] w : wrong) {
            due("12 addEngine(" + w[0] + ", " + w[1] + ")", x.addEngine(w[0], w[1]), -1);
        }
        due("12 first", x.addEngine(1, 0), 0);
        due("12 the buffer is empty", x.addEngine(1, 0), -2);
        due("12 same name", engine(x, "a", 100000, 500), -2);
        due("12 the buffer stays", x.letter('a'), 2);
        due("12 aa", x.addEngine(100000, 500), 1);
        due("12 aaa", engine(x, "aaa", 1, 0), 2);
        due("12 b", engine(x, "b", 1, 0), 3);
        due("12 ba", engine(x, "ba", 1, 0), 4);
        due("12 ab", engine(x, "ab", 1, 0), 5);
        due("12 seventh", engine(x, "zzzzzz", 1, 0), -3);
        due("12 seventh, wrong", x.addEngine(1, 501), -1);
        due("12 the buffer stays full", x.letter('a'), -3);
        PropellantGauge y = new PropellantGauge();
        for (char c = 'a'; c <= 'f'; c++) {
            engine(y, String.valueOf(c), 1, 0);
        }
        due("12 same name as the seventh", engine(y, "c", 1, 0), -2);
        PropellantGauge z = new PropellantGauge();
        z.addTank(1000, 0);
        engine(z, "a", 1, 0);
        z.ignite(0);
        due("12 in a burn", engine(z, "b", 1, 0), 1);
        due("12 nothing used", z.used(1), 0);
    }

    private static void promise13EngineNamed() {
        PropellantGauge x = new PropellantGauge();
        due("13 empty buffer", x.engineNamed(), -4);
        engine(x, "zz", 1, 0);
        engine(x, "z", 1, 0);
        engine(x, "abcdef", 1, 0);
        due("13 empty buffer again", x.engineNamed(), -4);
        Checks.spell(x, "z");
        due("13 z", x.engineNamed(), 1);
        due("13 the buffer is empty", x.engineNamed(), -4);
        Checks.spell(x, "zz");
        due("13 zz", x.engineNamed(), 0);
        Checks.spell(x, "abcde");
        due("13 abcde", x.engineNamed(), -4);
        due("13 the buffer stays", x.letter('f'), 6);
        due("13 abcdef", x.engineNamed(), 2);
        Checks.spell(x, "abcdeg");
        due("13 abcdeg", x.engineNamed(), -4);
    }

    private static void promise14SetValve() {
        PropellantGauge x = new PropellantGauge();
        due("14 no engine", x.setValve(0, 0, 0), -1);
        engine(x, "a", 1, 0);
        due("14 no tank", x.setValve(0, 0, 0), -1);
        x.addTank(1000, 0);
        due("14 only tanks that exist", x.setValve(0, 0, 1), 1);
        x.addTank(1000, 0);
        due("14 a tank that was added later", x.setValve(0, 0, 1), 3);
        engine(x, "b", 1, 0);
        int[][] wrong = {{-1, 0, 0}, {2, 0, 0}, {MIN, 0, 0}, {MAX, 0, 0}, {0, -1, 0}, {0, 2, 0}, {0, MIN, 0},
            {0, MAX, 0}, {0, 0, -1}, {0, 0, 2}, {0, 0, MIN}, {0, 0, MAX}};
        for (int[] w : wrong) {
            due("14 setValve(" + w[0] + ", " + w[1] + ", " + w[2] + ")", x.setValve(w[0], w[1], w[2]), -1);
        }
        due("14 close", x.setValve(0, 0, 0), 2);
        due("14 close again", x.setValve(0, 0, 0), 2);
        due("14 close the last", x.setValve(0, 1, 0), 0);
        due("14 the other engine", x.setValve(1, 0, 1), 3);
        x.addTank(1000, 0);
        due("14 later, though others are closed", x.setValve(0, 0, 0), 4);
        due("14 open", x.setValve(0, 1, 1), 6);
        x.ignite(0);
        due("14 in its burn", x.setValve(0, 0, 1), -2);
        due("14 in its burn, wrong", x.setValve(0, 0, 2), -1);
        due("14 in the other's burn", x.setValve(1, 0, 0), 6);
        x.cutoff();
        due("14 not changed in the burn", x.setValve(0, 2, 1), 6);
        closedTanksGiveNothing();
    }

    private static void closedTanksGiveNothing() {
        PropellantGauge x = new PropellantGauge();
        x.addTank(1000, 0);
        x.addTank(1000, 0);
        x.addTank(1000, 0);
        engine(x, "a", 9, 0);
        for (int t = 0; t < 3; t++) {
            x.load(t, 100, 0);
        }
        x.setValve(0, 0, 0);
        burnFor(x, 0, 1);
        due("14 closed, true", x.mass(0, 0), 100);
        due("14 closed, booked", x.mass(0, 1), 100);
        due("14 lowest open one", x.mass(1, 0), 95);
        due("14 lowest open one, booked", x.mass(1, 1), 95);
        due("14 the other open one", x.mass(2, 0), 96);
    }

    private static void promise15Used() {
        PropellantGauge x = new PropellantGauge();
        due("15 no engine", x.used(0), -1);
        x.addTank(1000, 0);
        engine(x, "a", 7, 0);
        engine(x, "b", 5, 0);
        int[] wrong = {-1, 2, MIN, MAX};
        for (int w : wrong) {
            due("15 used(" + w + ")", x.used(w), -1);
        }
        due("15 nothing yet", x.used(0), 0);
        x.load(0, 50, 0);
        x.setLeak(0, 10);
        x.ignite(0);
        x.pass(2);
        due("15 in the burn", x.used(0), 14);
        x.pass(2);
        due("15 though it has starved", x.used(0), 28);
        x.cutoff();
        burnFor(x, 1, 2);
        due("15 the other engine", x.used(1), 10);
        burnFor(x, 0, 100);
        due("15 no more than is booked", x.used(0), 40);
        x.load(0, 10, 0);
        due("15 load changes nothing", x.used(0), 40);
        burnFor(x, 0, 1);
        due("15 all burns", x.used(0), 47);
    }

    private static void promise16Delivered() {
        PropellantGauge x = new PropellantGauge();
        due("16 no engine", x.delivered(0), -1);
        x.addTank(1000, 0);
        engine(x, "a", 7, 0);
        engine(x, "b", 5, 0);
        int[] wrong = {-1, 2, MIN, MAX};
        for (int w : wrong) {
            due("16 delivered(" + w + ")", x.delivered(w), -1);
        }
        due("16 nothing yet", x.delivered(0), 0);
        x.load(0, 50, 0);
        x.setLeak(0, 10);
        x.ignite(0);
        x.pass(2);
        due("16 in the burn", x.delivered(0), 14);
        x.pass(1);
        due("16 what the leak left", x.delivered(0), 14 + 6);
        x.pass(1);
        due("16 starved", x.delivered(0), 20);
        x.cutoff();
        x.setLeak(0, 0);
        x.load(0, 100, 0);
        burnFor(x, 1, 3);
        due("16 the other engine", x.delivered(1), 15);
        due("16 the first engine", x.delivered(0), 20);
        burnFor(x, 0, 1);
        due("16 all burns", x.delivered(0), 27);
        whatIsMissingIsNotDelivered();
        flowIsLessThanTheTanks();
    }

    private static void whatIsMissingIsNotDelivered() {
        PropellantGauge x = new PropellantGauge();
        x.addTank(1000, 0);
        x.addTank(1000, 0);
        engine(x, "a", 20, 0);
        x.load(0, 100, 0);
        x.load(1, 3, 0);
        x.ignite(0);
        x.pass(1);
        due("16 missing", x.delivered(0), 13);
        due("16 missing, used", x.used(0), 13);
        due("16 missing, tank 0", x.mass(0, 0), 90);
        x.pass(1);
        due("16 one tank alone", x.delivered(0), 33);
    }

    private static void flowIsLessThanTheTanks() {
        PropellantGauge x = new PropellantGauge();
        for (int t = 0; t < 4; t++) {
            x.addTank(1000, 0);
        }
        engine(x, "a", 3, 0);
        x.load(1, 4, 0);
        x.load(2, 100, 0);
        x.load(3, 100, 0);
        x.setValve(0, 3, 0);
        x.ignite(0);
        x.pass(1);
        due("16 share 1 and rest 1", x.mass(1, 0), 2);
        due("16 share 1", x.mass(2, 0), 99);
        due("16 closed", x.mass(3, 0), 100);
        x.cutoff();
        engine(x, "b", 1, 0);
        x.load(0, 100, 0);
        x.ignite(1);
        x.pass(2);
        due("16 the lowest gives all of it", x.mass(0, 0), 98);
        due("16 share 0", x.mass(1, 0), 2);
        due("16 not starved", x.burn(3), 0);
    }

    // ---- time and burns

    private static void promise17Ignite() {
        PropellantGauge x = new PropellantGauge();
        due("17 no engine", x.ignite(0), -1);
        engine(x, "a", 1, 0);
        due("17 no tank", x.ignite(0), -2);
        x.addTank(1000, 0);
        engine(x, "b", 1, 0);
        int[] wrong = {-1, 2, MIN, MAX};
        for (int w : wrong) {
            due("17 ignite(" + w + ")", x.ignite(w), -1);
        }
        x.setValve(0, 0, 0);
        due("17 no open tank", x.ignite(0), -2);
        x.pass(5);
        due("17 an empty tank is enough", x.ignite(1), 5);
        due("17 the engine", x.burn(0), 1);
        due("17 during its burn", x.ignite(1), -2);
        x.setValve(0, 0, 1);
        due("17 during another's burn", x.ignite(0), -2);
        due("17 during a burn, wrong", x.ignite(2), -1);
        x.pass(3);
        due("17 still the same burn", x.burn(1), 3);
        x.cutoff();
        due("17 again", x.ignite(0), 8);
        due("17 it begins anew", x.burn(1), 0);
    }

    private static void promise18Cutoff() {
        PropellantGauge x = new PropellantGauge();
        due("18 none burns", x.cutoff(), -2);
        x.addTank(1000, 0);
        x.addTank(1000, 0);
        engine(x, "a", 9, 333);
        x.load(0, 1000, 2);
        x.load(1, 1000, 0);
        x.ignite(0);
        due("18 at once", x.cutoff(), 0);
        dueEntry(x, "18 entry of a burn without time", 0, 1, -1, 0);
        due("18 again", x.cutoff(), -2);
        x.ignite(0);
        x.pass(10);
        due("18 the variance grows at the end only", x.mass(0, 5), 4);
        due("18 lasted", x.cutoff(), 10);
        // 50 * 333 / 1000 = 16 and 40 * 333 / 1000 = 13, rounded down before they are squared.
        due("18 variance 0", x.mass(0, 5), 4 + 256);
        due("18 variance 1", x.mass(1, 5), 169);
        dueEntry(x, "18 entry", 10, 1, -1, 90);
        due("18 none burns any more", x.burn(0), -1);
        x.ignite(0);
        x.pass(1);
        due("18 the shares are of this burn", x.cutoff(), 1);
        due("18 variance 0 again", x.mass(0, 5), 260 + 1);
        due("18 variance 1 again", x.mass(1, 5), 169 + 1);
        dueEntry(x, "18 entry again", 11, 1, -1, 9);
        theVarianceHasAGreatestValue();
        theEstimateIsNotBelow0();
    }

    private static void theVarianceHasAGreatestValue() {
        PropellantGauge x = new PropellantGauge();
        x.addTank(1000, 0);
        engine(x, "a", 100000, 500);
        x.load(0, 1000000000, 0);
        burnFor(x, 0, 632);
        due("18 below the greatest", x.mass(0, 5), 998560000000000L);
        x.load(0, 1000000000, 0);
        burnFor(x, 0, 633);
        due("18 the greatest", x.mass(0, 5), 1000000000000000L);
        due("18 weight then", x.weight(0), 999);
        x.load(0, 1000000000, 1000000);
        burnFor(x, 0, 2000);
        due("18 the greatest again", x.mass(0, 5), 1000000000000000L);
        x.load(0, 1000000000, 0);
        x.ignite(0);
        for (int i = 0; i < 5; i++) {
            x.pass(2000);
        }
        x.cutoff();
        due("18 the greatest shares", x.mass(0, 5), 1000000000000000L);
        due("18 root of the greatest", x.drift(0), 0);
    }

    private static void theEstimateIsNotBelow0() {
        PropellantGauge x = gaugedCraft(1);
        x.load(0, 1000, 1000);
        x.set(0, 0);
        x.ignite(0);
        due("18 reading of 0", x.read(0, 0), 1);
        due("18 a smaller estimate", x.mass(0, 2), 500);
        for (int i = 0; i < 3; i++) {
            x.pass(200);
        }
        due("18 estimate not below 0", x.mass(0, 2), 0);
        due("18 booked goes on", x.mass(0, 1), 400);
        x.cutoff();
        dueEntry(x, "18 all shares count", 600, 1, -1, 600);
    }

    private static void promise19Pass() {
        PropellantGauge x = new PropellantGauge();
        int[] wrong = {0, -1, 2001, MIN, MAX};
        for (int w : wrong) {
            due("19 pass(" + w + ")", x.pass(w), -1);
        }
        due("19 least", x.pass(1), 1);
        due("19 greatest", x.pass(2000), 2001);
        due("19 time", x.time(), 2001);
        steps();
        theGreatestTime();
    }

    private static void steps() {
        PropellantGauge one = new PropellantGauge();
        PropellantGauge many = new PropellantGauge();
        for (PropellantGauge x : new PropellantGauge[] {one, many}) {
            for (int t = 0; t < 3; t++) {
                x.addTank(1000, 0);
                x.load(t, 500 + 333 * t, 0);
                x.setLeak(t, t);
            }
            engine(x, "a", 11, 250);
            x.ignite(0);
        }
        one.pass(150);
        for (int i = 0; i < 150; i++) {
            many.pass(1);
        }
        for (int t = 0; t < 3; t++) {
            for (int what = 0; what < 6; what++) {
                due("19 one pass as many, mass(" + t + ", " + what + ")", one.mass(t, what), many.mass(t, what));
            }
        }
        due("19 one pass as many, delivered", one.delivered(0), many.delivered(0));
        due("19 one pass as many, used", one.used(0), many.used(0));
    }

    private static void theGreatestTime() {
        // The promises end at 512 calls, so this looks at what the limit's words say beyond them.
        PropellantGauge x = new PropellantGauge();
        x.addTank(1000, 0);
        engine(x, "a", 1, 0);
        for (int i = 0; i < 49999; i++) {
            x.pass(2000);
        }
        x.load(0, 10, 0);
        due("19 beyond the greatest time", x.pass(1999), 99999999);
        due("19 2 more", x.pass(2), -3);
        due("19 not changed", x.time(), 99999999);
        due("19 wrong rather than too great", x.pass(2001), -1);
        Checks.write(x, "burn a 2;");
        due("19 no burn that could not last", x.execute(), 0);
        due("19 it did not begin", x.burn(0), -1);
        due("19 no entry of it", x.entryCount(), 1);
        due("19 planned", x.planned(), 0);
        Checks.write(x, "burn a 1;wait 1;");
        due("19 planned up to the greatest time", x.planned(), 1);
        due("19 up to the greatest time", x.execute(), 1);
        due("19 the greatest time", x.time(), 100000000);
        due("19 1 more", x.pass(1), -3);
    }

    private static void promise20Time() {
        PropellantGauge x = new PropellantGauge();
        due("20 initially", x.time(), 0);
        x.pass(17);
        due("20 passed", x.time(), 17);
        x.addTank(1000, 0);
        engine(x, "a", 1, 0);
        x.ignite(0);
        x.pass(3);
        due("20 in a burn", x.time(), 20);
        x.cutoff();
        due("20 after a burn", x.time(), 20);
        x.pass(0);
        due("20 after an error", x.time(), 20);
    }

    private static void promise21Burn() {
        PropellantGauge x = new PropellantGauge();
        int[] wrong = {-1, 4, MIN, MAX};
        for (int w : wrong) {
            due("21 burn(" + w + ")", x.burn(w), -1);
        }
        x.addTank(1000, 0);
        x.addTank(1000, 0);
        engine(x, "a", 1, 0);
        engine(x, "b", 1, 0);
        x.load(0, 503, 0);
        x.set(0, 0);
        due("21 none burns, settling time 0", x.burn(2), 0);
        x.ignite(1);
        due("21 engine", x.burn(0), 1);
        due("21 just begun", x.burn(1), 0);
        due("21 settled at once", x.burn(2), 1);
        x.set(0, 500);
        x.pass(499);
        due("21 lasted", x.burn(1), 499);
        due("21 not yet settled", x.burn(2), 0);
        x.pass(1);
        due("21 settled", x.burn(2), 1);
        x.set(0, 501);
        due("21 another settling time", x.burn(2), 0);
        x.pass(3);
        due("21 settled until it starves", x.burn(2), 1);
        due("21 not starved though empty", x.burn(3), 0);
        x.pass(1);
        due("21 starved", x.burn(3), 1);
        due("21 starved, so not settled", x.burn(2), 0);
        dueEntry(x, "21 entry", 503, 4, -1, 0);
        int entries = x.entryCount();
        x.pass(10);
        due("21 starving begins once", x.entryCount(), entries);
        x.cutoff();
        due("21 none", x.burn(0), -1);
        due("21 none, lasted", x.burn(1), 0);
        due("21 none, settled", x.burn(2), 0);
        due("21 none, starved", x.burn(3), 0);
        x.load(0, 100, 0);
        x.ignite(1);
        due("21 a new burn has not starved", x.burn(3), 0);
        x.pass(20);
        x.cutoff();
        x.ignite(1);
        x.set(0, 20);
        x.pass(19);
        due("21 an interruption counts", x.burn(2), 0);
    }

    // ---- readings

    private static void promise22Read() {
        readErrors();
        readAccepted();
        readRejected();
        readBelowTheEstimate();
        readGreatValues();
    }

    private static void readErrors() {
        PropellantGauge x = new PropellantGauge();
        due("22 no tank", x.read(0, 0), -1);
        x.addTank(1000, 0);
        int[][] wrong = {{-1, 0}, {1, 0}, {MIN, 0}, {MAX, 0}, {0, -1}, {0, 10001}, {0, MIN}, {0, MAX}};
        for (int[] w : wrong) {
            due("22 read(" + w[0] + ", " + w[1] + ")", x.read(w[0], w[1]), -1);
        }
        due("22 empty table, unsettled", x.read(0, 0), -2);
        due("22 empty table, wrong level", x.read(0, 10001), -1);
        engine(x, "a", 1, 0);
        x.load(0, 100, 0);
        x.set(0, 0);
        x.ignite(0);
        due("22 empty table, settled", x.read(0, 0), -2);
        x.cutoff();
        x.addPoint(0, 0, 0);
        int entries = x.entryCount();
        due("22 none burns", x.read(0, 0), 3);
        due("22 no entry", x.entryCount(), entries);
    }

    private static void readAccepted() {
        PropellantGauge x = gaugedCraft(1);
        x.load(0, 1000, 1000);
        x.set(0, 10);
        x.ignite(0);
        x.pass(9);
        due("22 unsettled", x.read(0, 1201), 3);
        due("22 unsettled changes nothing", x.mass(0, 2), 991);
        x.pass(1);
        due("22 accepted", x.read(0, 1201), 1);
        due("22 estimate", x.mass(0, 2), 990 + 105);
        due("22 variance", x.mass(0, 5), 500000);
        due("22 true stays", x.mass(0, 0), 990);
        due("22 booked stays", x.mass(0, 1), 990);
        dueEntry(x, "22 entry", 10, 2, 0, 105);
        due("22 at the greatest level", x.read(0, 10000), 2);
    }

    private static void readRejected() {
        PropellantGauge x = gaugedCraft(1);
        x.setGaugeVariance(0, 75);
        x.load(0, 1000, 5);
        x.set(0, 0);
        x.set(1, 4);
        x.ignite(0);
        // The gate times the variances is 4 * 100, so an innovation of 20 is the greatest.
        due("22 outlier above", x.read(0, 1021), 2);
        due("22 outlier changes no estimate", x.mass(0, 2), 1000);
        due("22 outlier changes no variance", x.mass(0, 5), 25);
        dueEntry(x, "22 entry of an outlier above", 0, 3, 0, 21);
        due("22 outlier below", x.read(0, 979), 2);
        dueEntry(x, "22 entry of an outlier below", 0, 3, 0, -21);
        due("22 just accepted below", x.read(0, 980), 1);
        due("22 estimate", x.mass(0, 2), 995);
        due("22 variance", x.mass(0, 5), 25 * 750 / 1000);
        dueEntry(x, "22 entry below", 0, 2, 0, -5);
        x.cutoff();
        x.load(0, 1000, 5);
        x.ignite(0);
        due("22 just accepted above", x.read(0, 1020), 1);
        due("22 estimate above", x.mass(0, 2), 1005);
    }

    private static void readBelowTheEstimate() {
        PropellantGauge x = gaugedCraft(1);
        x.setGaugeVariance(0, 300);
        x.load(0, 1000, 10);
        x.set(0, 0);
        x.ignite(0);
        // 250 * -1 / 1000 is rounded down to -1.
        due("22 one below", x.read(0, 999), 1);
        due("22 rounded down", x.mass(0, 2), 999);
        dueEntry(x, "22 entry of one below", 0, 2, 0, -1);
        due("22 variance rounded down", x.mass(0, 5), 75);
        due("22 again", x.read(0, 1000), 1);
        due("22 one above adds 0", x.mass(0, 2), 999);
        due("22 variance again", x.mass(0, 5), 75 * 800 / 1000);
        PropellantGauge y = gaugedCraft(1);
        y.load(0, 1000, 0);
        y.set(0, 0);
        y.ignite(0);
        due("22 no variance, no weight", y.read(0, 900), 1);
        due("22 no variance, same estimate", y.mass(0, 2), 1000);
        dueEntry(y, "22 entry without weight", 0, 2, 0, 0);
        y.pass(999);
        due("22 down to the last", y.read(0, 0), 1);
        y.pass(2);
        due("22 starved", y.read(0, 0), 3);
        y.cutoff();
        y.load(0, 1, 1000);
        y.ignite(0);
        due("22 down to nothing", y.read(0, 0), 1);
        due("22 the estimate is 0", y.mass(0, 2), 0);
        dueEntry(y, "22 entry down to nothing", 1001, 2, 0, -1);
    }

    private static void readGreatValues() {
        PropellantGauge x = new PropellantGauge();
        x.addTank(3000, 0);
        x.addPoint(0, 0, 0);
        x.addPoint(0, 10000, 1000000000);
        engine(x, "a", 100000, 500);
        x.load(0, 1000000000, 1000000);
        x.set(0, 0);
        x.set(1, 100);
        x.ignite(0);
        due("22 a great outlier", x.read(0, 10000), 2);
        dueEntry(x, "22 entry of a great outlier", 0, 3, 0, 2000000000);
        x.cutoff();
        for (int i = 0; i < 4; i++) {
            burnFor(x, 0, 2000);
        }
        due("22 the greatest variance", x.mass(0, 5), 1000000000000000L);
        x.setGaugeVariance(0, 1);
        x.ignite(0);
        // Innovations up to 316227766 pass; of 516000000 - 200000000 999 thousandths are added.
        due("22 just above the gate of the greatest variance", x.read(0, 1721), 2);
        due("22 just within the gate of the greatest variance", x.read(0, 1720), 1);
        due("22 a great estimate", x.mass(0, 2), 200000000 + 315684000);
        due("22 a small variance", x.mass(0, 5), 1000000000000L);
    }

    private static void promise23Weight() {
        PropellantGauge x = new PropellantGauge();
        due("23 no tank", x.weight(0), -1);
        x.addTank(1000, 0);
        int[] wrong = {-1, 1, MIN, MAX};
        for (int w : wrong) {
            due("23 weight(" + w + ")", x.weight(w), -1);
        }
        due("23 no variance", x.weight(0), 0);
        x.load(0, 0, 1000);
        due("23 half", x.weight(0), 500);
        x.load(0, 0, 1000000);
        x.setGaugeVariance(0, 1);
        due("23 rounded down", x.weight(0), 999);
        x.setGaugeVariance(0, 1000000000000L);
        due("23 great variances", x.weight(0), 500);
        x.load(0, 0, 1);
        x.setGaugeVariance(0, 2);
        due("23 a third", x.weight(0), 333);
        due("23 no entry for a weight", x.entryCount(), 3);
    }

    // ---- ledger

    private static void promise24EntryCount() {
        PropellantGauge x = new PropellantGauge();
        due("24 none", x.entryCount(), 0);
        x.addTank(1000, 0);
        for (int n = 1; n <= 24; n++) {
            x.load(0, n, 0);
            due("24 entries", x.entryCount(), n);
        }
        x.load(0, 25, 0);
        due("24 at most 24", x.entryCount(), 24);
        x.load(0, 26, 0);
        due("24 still 24", x.entryCount(), 24);
    }

    private static void promise25Entry() {
        PropellantGauge x = new PropellantGauge();
        due("25 none", x.entry(0, 0), ERROR);
        x.addTank(1000, 0);
        x.addTank(1000, 0);
        for (int n = 1; n <= 50; n++) {
            x.load(n % 2, n, 0);
            x.pass(2);
        }
        for (int index = 0; index < 24; index++) {
            int n = 50 - index;
            due("25 time of " + index, x.entry(index, 0), 2 * (n - 1));
            due("25 kind of " + index, x.entry(index, 1), 5);
            due("25 tank of " + index, x.entry(index, 2), n % 2);
            due("25 amount of " + index, x.entry(index, 3), n);
        }
        int[][] wrong = {{24, 0}, {-1, 0}, {MIN, 0}, {MAX, 0}, {0, -1}, {0, 4}, {0, MIN}, {0, MAX}};
        for (int[] w : wrong) {
            due("25 entry(" + w[0] + ", " + w[1] + ")", x.entry(w[0], w[1]), ERROR);
        }
        PropellantGauge y = new PropellantGauge();
        y.addTank(1000, 0);
        y.load(0, 5, 0);
        due("25 one entry", y.entry(0, 3), 5);
        due("25 no second entry", y.entry(1, 3), ERROR);
        allKindsOfEntries();
    }

    private static void allKindsOfEntries() {
        PropellantGauge x = gaugedCraft(10);
        x.addTank(1000, 0);
        x.addPoint(1, 0, 0);
        x.addPoint(1, 10000, 10000);
        x.load(0, 100, 1000);
        x.load(1, 20, 0);
        x.set(0, 0);
        x.ignite(0);
        x.read(1, 9000);
        x.read(0, 200);
        x.pass(20);
        x.cutoff();
        long[][] want = {{20, 1, -1, 120}, {12, 4, -1, 0}, {0, 2, 0, 50}, {0, 3, 1, 8980}, {0, 5, 1, 20},
            {0, 5, 0, 100}};
        due("25 entries of all kinds", x.entryCount(), want.length);
        for (int index = 0; index < want.length; index++) {
            for (int what = 0; what < 4; what++) {
                due("25 all kinds, entry(" + index + ", " + what + ")", x.entry(index, what), want[index][what]);
            }
        }
    }

    // ---- command texts

    private static void promise26Type() {
        PropellantGauge x = new PropellantGauge();
        int[] wrong = {31, 127, 0, -1, 256 + 65, 65536 + 65, MIN, MAX};
        for (int w : wrong) {
            due("26 type(" + w + ")", x.type(w), -1);
        }
        due("26 least", x.type(32), 1);
        due("26 greatest", x.type(126), 2);
        for (int n = 3; n <= 100; n++) {
            due("26 character " + n, x.type(97), n);
        }
        due("26 one too many", x.type(97), -3);
        due("26 one too many, wrong", x.type(31), -1);
        due("26 length", x.clearText(), 100);
        due("26 first again", x.type(97), 1);
    }

    private static void promise27ClearText() {
        PropellantGauge x = new PropellantGauge();
        due("27 empty", x.clearText(), 0);
        Checks.write(x, "stop");
        due("27 length", x.clearText(), 4);
        due("27 empty again", x.clearText(), 0);
        due("27 nothing is left", x.fault(), -4);
        Checks.write(x, "wait 5;");
        Checks.write(x, "wait ");
        due("27 the old characters are gone", x.fault(), 0);
        Checks.write(x, "stop;");
        Checks.write(x, "stop");
        due("27 the old semicolon is gone", x.fault(), 0);
    }

    private static void promise28Fault() {
        String[] right = {"", "stop;", "start a;", "start abcdef;", "start z;", "wait 1;", "wait 2000;", "wait 0001;",
            "burn main 1;", "burn abcdef 2000;", "burn burn 0100;", "open a 0;", "open abcdef 9;", "close a 5;",
            "close close 7;", "read 0 0;", "read 9 10000;", "read 5 00000;", "read 5 00012;", "read 3 9999;",
            "stop;stop;stop;", "start stop;stop;", "start a;wait 600;read 0 7000;stop;"};
        for (String text : right) {
            dueFault(text, -4);
        }
        String[] wrong = {";", " ", "stop", "stop ;", " stop;", "Stop;", "stopp;", "sto;", "stop;;", "start;", "start ;",
            "start a", "start A;", "start a1;", "start abcdefg;", "start  a;", "start a ;", "start a b;", "starta;",
            "wait;", "wait ;", "wait 0;", "wait 0000;", "wait 2001;", "wait 9999;", "wait 00001;", "wait 10000;",
            "wait -1;", "wait 1 ;", "wait  1;", "wait a;", "wait 1a;", "wait 1", "burn a;", "burn a ;", "burn a 0;",
            "burn a 2001;", "burn 1 a;", "burn  1;", "burn a  1;", "burn a 1 1;", "burn abcdefg 1;", "burn a 00001;",
            "open a;", "open a ;", "open a 10;", "open a b;", "open 0 a;", "open a 0 ;", "open abcdefg 0;",
            "close a;", "close a 00;", "close A 0;", "close  0;", "closea 0;", "read 0;", "read 0 ;", "read 0 10001;",
            "read 0 99999;", "read 0 000000;", "read 0 010000;", "read 00 1;", "read a 1;", "read 0 a;", "read  0 1;",
            "read 0  1;", "read 0 1 ;", "read 0 -1;", "go;", "stop,", "start a:", "wait 1/;", "wait :;", "start `;",
            "start {;"};
        for (String text : wrong) {
            int fault = text.equals("stop;;") ? 5 : 0;
            dueFault(text, fault);
            dueFault("burn a 5;stop;" + text, 14 + fault);
            dueFault(text + " stop;", fault);
        }
        dueFault("stop; stop;", 5);
        dueFault("stop;stop", 5);
        dueFault("stop;wait 3;x;y;", 12);
        dueFault("stopstop;", 0);
        String full = "wait 2000;".repeat(10);
        dueFault(full, -4);
        dueFault("stop;".repeat(20), -4);
        dueFault("stop;".repeat(19) + "stop!", 95);
        dueFault("stop;".repeat(19) + "wait ", 95);
        dueFault("wait 2000;".repeat(9) + "wait 20000", 90);
        dueFault("wait 2000;".repeat(9) + "start abcd", 90);
    }

    private static void dueFault(String text, int want) {
        PropellantGauge x = new PropellantGauge();
        Checks.write(x, text);
        due("28 fault of '" + text + "'", x.fault(), want);
        due("28 execute '" + text + "'", x.execute() == -2 ? 1 : 0, want == -4 ? 0 : 1);
        due("28 planned '" + text + "'", x.planned() == -2 ? 1 : 0, want == -4 ? 0 : 1);
        due("28 the text '" + text + "' stays", x.clearText(), text.length());
    }

    private static void promise29Execute() {
        executeCommands();
        executeEnds();
        executeBurn();
        executeWithFault();
    }

    private static void executeCommands() {
        PropellantGauge x = gaugedCraft(2);
        x.addTank(1000, 0);
        engine(x, "bb", 3, 100);
        x.load(0, 10000, 1000);
        x.load(1, 10000, 0);
        due("29 empty text", x.execute(), 0);
        Checks.spell(x, "zz");
        Checks.write(x, "close a 1;start a;wait 0500;read 0 9000;stop;open a 1;burn bb 10;");
        due("29 executed", x.execute(), 7);
        due("29 the text stays", x.fault(), -4);
        due("29 time", x.time(), 510);
        due("29 closed, then open", x.setValve(0, 1, 1), 3);
        due("29 tank 1", x.mass(1, 0), 9990);
        due("29 tank 0", x.mass(0, 0), 10000 - 1000 - 20);
        due("29 tank 0, estimated", x.mass(0, 2), 8980);
        due("29 variance", x.mass(0, 5), 500000 + 4);
        due("29 variance 1", x.mass(1, 5), 1);
        due("29 used", x.used(0), 1000);
        due("29 used by bb", x.used(1), 30);
        dueEntry(x, "29 entry", 510, 1, -1, 30);
        due("29 entries", x.entryCount(), 5);
        due("29 the name buffer stays", x.letter('z'), 3);
        due("29 length", x.clearText(), 65);
        Checks.write(x, "wait 7;");
        due("29 once", x.execute(), 1);
        due("29 twice", x.execute(), 1);
        due("29 time passed twice", x.time(), 524);
    }

    private static void executeEnds() {
        PropellantGauge x = gaugedCraft(1);
        x.addTank(1000, 0);
        x.load(0, 100000, 1000);
        dueExecuted(x, "stop;wait 1;", 0);
        dueExecuted(x, "start b;wait 1;", 0);
        dueExecuted(x, "start aa;wait 1;", 0);
        dueExecuted(x, "burn b 1;wait 1;", 0);
        dueExecuted(x, "open b 0;wait 1;", 0);
        dueExecuted(x, "close a 2;wait 1;", 0);
        dueExecuted(x, "open a 9;wait 1;", 0);
        dueExecuted(x, "read 2 0;wait 1;", 0);
        dueExecuted(x, "read 1 0;wait 1;", 0);
        due("29 nothing has passed", x.time(), 0);
        due("29 no entry but the load", x.entryCount(), 1);
        dueExecuted(x, "read 0 0;wait 1;", 2);
        due("29 an unsettled reading is no error", x.time(), 1);
        dueExecuted(x, "start a;start a;wait 1;", 1);
        dueExecuted(x, "burn a 5;wait 1;", 0);
        due("29 the first burn goes on", x.burn(1), 0);
        dueExecuted(x, "close a 1;", 0);
        dueExecuted(x, "open a 1;", 0);
        dueExecuted(x, "wait 500;read 0 10000;stop;stop;wait 1;", 3);
        due("29 an outlier is no error", x.entry(1, 1), 3);
        due("29 ended before the last", x.time(), 501);
        dueExecuted(x, "close a 0;close a 1;start a;wait 1;", 2);
        dueExecuted(x, "burn a 1;", 0);
        dueExecuted(x, "open a 0;burn a 1;", 2);
        due("29 burnt", x.time(), 502);
        dueExecuted(x, "start a;stop;wait 1;", 3);
        due("29 a burn without time is no error", x.time(), 503);
    }

    private static void dueExecuted(PropellantGauge x, String text, int want) {
        Checks.write(x, text);
        due("29 execute '" + text + "'", x.execute(), want);
    }

    private static void executeBurn() {
        PropellantGauge text = gaugedCraft(7);
        PropellantGauge calls = gaugedCraft(7);
        for (PropellantGauge x : new PropellantGauge[] {text, calls}) {
            x.load(0, 100, 3);
            x.setLeak(0, 5);
        }
        dueExecuted(text, "burn a 12;burn a 2;", 2);
        burnFor(calls, 0, 12);
        burnFor(calls, 0, 2);
        for (int what = 0; what < 6; what++) {
            due("29 burn as its methods, mass " + what, text.mass(0, what), calls.mass(0, what));
        }
        due("29 burn as its methods, entries", text.entryCount(), calls.entryCount());
        for (int index = 0; index < text.entryCount(); index++) {
            for (int what = 0; what < 4; what++) {
                due("29 burn as its methods, entry", text.entry(index, what), calls.entry(index, what));
            }
        }
        due("29 none burns", text.burn(0), -1);
    }

    private static void executeWithFault() {
        PropellantGauge x = gaugedCraft(1);
        dueExecuted(x, "wait 5;stop", -2);
        due("29 a fault: nothing is executed", x.time(), 0);
    }

    // ---- plans

    private static void promise30LongestBurn() {
        longestBurnErrors();
        longestBurnOfOneTank();
        longestBurnOfTwoTanks();
    }

    private static void longestBurnErrors() {
        PropellantGauge x = new PropellantGauge();
        due("30 no engine", x.longestBurn(0), -1);
        engine(x, "a", 10, 0);
        due("30 no tank", x.longestBurn(0), 5000);
        int[] wrong = {-1, 1, MIN, MAX};
        for (int w : wrong) {
            due("30 longestBurn(" + w + ")", x.longestBurn(w), -1);
        }
        x.addTank(1000, 100);
        due("30 nothing booked", x.longestBurn(0), 5000);
        x.load(0, 99, 0);
        due("30 below now", x.longestBurn(0), -4);
        x.setValve(0, 0, 0);
        due("30 below, but closed", x.longestBurn(0), 5000);
        x.setValve(0, 0, 1);
        x.ignite(0);
        due("30 in a burn", x.longestBurn(0), -2);
        due("30 in a burn, wrong", x.longestBurn(1), -1);
        x.cutoff();
        x.load(0, 1, 0);
        due("30 below now with the least booked mass", x.longestBurn(0), -4);
        x.load(0, 100, 0);
        due("30 just not below now", x.longestBurn(0), 0);
        PropellantGauge y = new PropellantGauge();
        for (int t = 0; t < 4; t++) {
            y.addTank(1000, 10);
            y.load(t, 30, 0);
        }
        engine(y, "a", 19, 0);
        // Tank 0 gives 4 and the rest of 3 in each step, the others 4.
        due("30 four tanks", y.longestBurn(0), 2);
        y.setValve(0, 0, 0);
        due("30 three tanks", y.longestBurn(0), 2);
        y.load(3, 9, 0);
        due("30 the last is below", y.longestBurn(0), -4);
    }

    private static void longestBurnOfOneTank() {
        PropellantGauge x = new PropellantGauge();
        x.addTank(1000, 100);
        engine(x, "a", 10, 500);
        x.load(0, 149, 5);
        x.setLeak(0, 1000);
        due("30 four", x.longestBurn(0), 4);
        x.load(0, 150, 5);
        due("30 five", x.longestBurn(0), 5);
        due("30 nothing is changed, booked", x.mass(0, 1), 150);
        due("30 nothing is changed, estimated", x.mass(0, 2), 150);
        due("30 nothing is changed, true", x.mass(0, 0), 150);
        due("30 nothing is changed, variance", x.mass(0, 5), 25);
        due("30 nothing is changed, time", x.time(), 0);
        due("30 nothing is changed, used", x.used(0), 0);
        due("30 nothing is changed, entries", x.entryCount(), 2);
        x.load(0, 50099, 0);
        due("30 4999", x.longestBurn(0), 4999);
        x.load(0, 50100, 0);
        due("30 5000", x.longestBurn(0), 5000);
        x.load(0, 50110, 0);
        due("30 at most 5000", x.longestBurn(0), 5000);
        PropellantGauge y = new PropellantGauge();
        y.addTank(1000, 0);
        engine(y, "a", 10, 0);
        y.load(0, 35, 0);
        due("30 no residual", y.longestBurn(0), 5000);
    }

    private static void longestBurnOfTwoTanks() {
        PropellantGauge x = new PropellantGauge();
        x.addTank(1000, 0);
        x.addTank(1000, 500);
        engine(x, "a", 10, 0);
        x.load(0, 25, 0);
        x.load(1, 1000, 0);
        // Five steps of 5 for each of them, then 10 from tank 1 alone: 1000 - 25 - 47 * 10 = 505.
        due("30 the tanks share", x.longestBurn(0), 52);
        x.load(0, 24, 0);
        due("30 what is missing is not booked", x.longestBurn(0), 52);
        x.load(0, 0, 0);
        due("30 one is empty", x.longestBurn(0), 50);
        PropellantGauge y = gaugedCraft(10);
        y.addTank(1000, 300);
        y.load(0, 1000, 0);
        y.load(1, 350, 1000);
        y.addPoint(1, 0, 310);
        y.set(0, 0);
        y.ignite(0);
        y.read(1, 0);
        y.cutoff();
        due("30 by the estimate", y.longestBurn(0), 6);
        due("30 the estimate", y.mass(1, 2), 330);
        y.ignite(0);
        y.pass(7);
        y.cutoff();
        due("30 below by the estimate", y.longestBurn(0), -4);
    }

    private static void promise31Planned() {
        PropellantGauge x = gaugedCraft(10);
        x.addTank(1000, 0);
        x.load(0, 100, 1000);
        x.load(1, 3, 0);
        due("31 empty text", x.planned(), 0);
        Checks.write(x, "wait 5");
        due("31 fault", x.planned(), -2);
        Checks.write(x, "burn a 2;");
        due("31 two steps", x.planned(), 8 + 10);
        String text = "close a 0;burn a 2;open a 0;close a 1;start a;wait 20;stop;";
        Checks.write(x, text);
        due("31 all that is booked", x.planned(), 3 + 100);
        due("31 valves stay", x.setValve(0, 0, 1), 3);
        due("31 again", x.planned(), 103);
        due("31 nothing is changed, time", x.time(), 0);
        due("31 nothing is changed, true", x.mass(0, 0), 100);
        due("31 nothing is changed, booked", x.mass(0, 1), 100);
        due("31 nothing is changed, estimated", x.mass(0, 2), 100);
        due("31 nothing is changed, variance", x.mass(0, 5), 1000000);
        due("31 nothing is changed, used", x.used(0), 0);
        due("31 nothing is changed, delivered", x.delivered(0), 0);
        due("31 nothing is changed, entries", x.entryCount(), 2);
        due("31 none burns", x.burn(0), -1);
        due("31 the text stays", x.clearText(), text.length());
        Checks.write(x, "burn a 1;read 1 0;burn a 1;");
        due("31 ends like execute", x.planned(), 8);
        Checks.write(x, "burn a 1;stop;burn a 1;");
        due("31 ends at a stop", x.planned(), 8);
        Checks.write(x, "start a;wait 1;");
        due("31 a burn that does not end", x.planned(), 8);
        x.ignite(0);
        x.pass(1);
        Checks.write(x, "wait 2;stop;wait 2;");
        due("31 a burn that has begun", x.planned(), 20);
        due("31 it goes on", x.burn(1), 1);
        due("31 executed", x.execute(), 3);
        due("31 as planned", x.used(0), 8 + 20);
        x.setLeak(0, 1000);
        x.pass(1);
        Checks.write(x, "burn a 3;");
        due("31 by bookkeeping, not by true masses", x.planned(), 30);
        plannedFromAPresentBurn();
        plannedWithReadings();
    }

    private static void plannedFromAPresentBurn() {
        PropellantGauge x = gaugedCraft(10);
        x.load(0, 1000, 0);
        x.pass(5);
        x.ignite(0);
        x.pass(2);
        Checks.write(x, "wait 3;stop;burn a 4;");
        due("31 the present burn goes on", x.planned(), 70);
        x.cutoff();
        due("31 no present burn", x.planned(), 0);
        Checks.write(x, "burn a 4;");
        due("31 a burn of its own", x.planned(), 40);
    }

    private static void plannedWithReadings() {
        PropellantGauge x = new PropellantGauge();
        x.addTank(1000, 0);
        engine(x, "a", 10, 0);
        x.load(0, 1000, 1000);
        x.set(0, 0);
        Checks.write(x, "start a;read 0 5;wait 2;");
        due("31 a reading without a table", x.planned(), 0);
        x.addPoint(0, 0, 0);
        due("31 a reading", x.planned(), 20);
        due("31 no entry for it", x.entryCount(), 1);
        due("31 same estimate", x.mass(0, 2), 1000);
    }

    private static void promise32Drift() {
        PropellantGauge x = gaugedCraft(1);
        due("32 tank -1", x.drift(-1), ERROR);
        due("32 tank 1", x.drift(1), ERROR);
        due("32 least", x.drift(MIN), ERROR);
        due("32 greatest", x.drift(MAX), ERROR);
        x.load(0, 1000, 1000);
        due("32 no difference", x.drift(0), 0);
        x.set(0, 0);
        x.ignite(0);
        x.read(0, 901);
        // The variance is 500000, and the root of 500001 is 707; the estimate is 50 below the booked mass.
        due("32 the estimate", x.mass(0, 2), 950);
        due("32 below, rounded down", x.drift(0), -1);
        x.cutoff();
        x.load(0, 1000, 1000);
        x.ignite(0);
        x.read(0, 1151);
        due("32 above", x.mass(0, 2), 1075);
        due("32 above, rounded down", x.drift(0), 1);
        x.cutoff();
        x.setGaugeVariance(0, 1);
        x.load(0, 1000, 1);
        x.ignite(0);
        x.read(0, 1002);
        due("32 no variance", x.mass(0, 5), 0);
        due("32 root of 1", x.drift(0), 10);
        x.cutoff();
        x.setGaugeVariance(0, 3);
        x.load(0, 1000, 2);
        x.ignite(0);
        x.read(0, 998);
        due("32 variance 1", x.mass(0, 5), 1);
        due("32 root of 2", x.drift(0), -20);
        due("32 no tank", new PropellantGauge().drift(0), ERROR);
        theRootIsOfOneMore();
    }

    private static void theRootIsOfOneMore() {
        PropellantGauge x = gaugedCraft(1);
        x.setGaugeVariance(0, 3);
        x.load(0, 1000, 3);
        x.set(0, 0);
        x.ignite(0);
        // The weight is 750, and a variance of 9 * 250 / 1000 = 2 is left.
        x.read(0, 1004);
        due("32 the estimate above", x.mass(0, 2), 1003);
        due("32 variance 2", x.mass(0, 5), 2);
        due("32 root of 3", x.drift(0), 30);
        x.cutoff();
        x.setGaugeVariance(0, 9);
        x.load(0, 1000, 3);
        x.ignite(0);
        x.read(0, 1008);
        due("32 variance 4", x.mass(0, 5), 4);
        due("32 root of 5", x.drift(0), 20);
        x.cutoff();
        x.setGaugeVariance(0, 5);
        x.load(0, 1000, 3);
        x.ignite(0);
        x.read(0, 1008);
        due("32 the weight was 642", x.mass(0, 2), 1005);
        due("32 variance 3", x.mass(0, 5), 3);
        due("32 root of 4", x.drift(0), 25);
    }

    // ---- helpers

    /** A craft with a tank whose gauged mass is its level, and an engine named a. */
    private static PropellantGauge gaugedCraft(int flow) {
        PropellantGauge x = new PropellantGauge();
        x.addTank(1000, 0);
        x.addPoint(0, 0, 0);
        x.addPoint(0, 10000, 10000);
        engine(x, "a", flow, 0);
        return x;
    }

    private static int engine(PropellantGauge x, String name, int flow, int uncertainty) {
        return Checks.engine(x, name, flow, uncertainty);
    }

    private static void burnFor(PropellantGauge x, int engine, int ms) {
        x.ignite(engine);
        x.pass(ms);
        x.cutoff();
    }

    private static void dueEntry(PropellantGauge x, String what, long time, long kind, long tank, long amount) {
        due(what + ", time", x.entry(0, 0), time);
        due(what + ", kind", x.entry(0, 1), kind);
        due(what + ", tank", x.entry(0, 2), tank);
        due(what + ", amount", x.entry(0, 3), amount);
    }

    private static void due(String call, long got, long want) {
        CHECKS.due(call, got, want);
    }
}
