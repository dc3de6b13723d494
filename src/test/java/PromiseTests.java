import java.lang.reflect.Constructor;
import java.lang.reflect.Field;
import java.lang.reflect.Member;
import java.lang.reflect.Method;
import java.lang.reflect.Modifier;
import java.util.TreeSet;

/** Each promise of the document by hand-made runs: ordinary inputs, the edges, wrong inputs. */
public final class PromiseTests {
    private static final int EXTENDED = 7;
    private static final int RETRACTED = 7 << 3;
    private static final int OPEN = 7 << 6;
    private static final int CLOSED = 7 << 9;
    private static final int PRESSURE = 7 << 12;
    private static final int SWITCH = 7 << 15;
    /** Gears up, doors closed: with the handle up nothing is wanted and no condition holds. */
    private static final int REST = RETRACTED | CLOSED;
    private static final int[] WRONG_MODULES = {-2, 2, 3, Integer.MIN_VALUE, Integer.MAX_VALUE};

    private static int checks = 0;
    private static int wrong = 0;
    private static String part = "";

    private static void due(String what, long got, long want) {
        checks++;
        if (got != want) {
            wrong++;
            System.out.println(part + ": " + what + " answered " + got + ", due is " + want);
        }
    }

    private static void due(String what, boolean got, boolean want) {
        due(what, got ? 1 : 0, want ? 1 : 0);
    }

    public static void main(String[] args) {
        face();
        newObject();
        handle();
        tick();
        voting();
        wantedValves();
        valveGaps();
        conditions();
        halfConditions();
        switchWait();
        fail();
        failedModuleStays();
        replace();
        works();
        time();
        valves();
        sensor();
        anomalies();
        running();
        lights();
        entry();
        word();
        label();
        refusedCallsChangeNothing();
        System.out.println(wrong == 0 ? checks + " checks are as due" : wrong + " of " + checks + " checks are not as due");
        if (wrong != 0) {
            System.exit(1);
        }
    }

    private static void face() {
        part = "the face";
        TreeSet<String> seen = new TreeSet<>();
        for (Field f : GearModules.class.getDeclaredFields()) {
            addIfOpen(seen, f, f.getType().getName());
        }
        for (Method f : GearModules.class.getDeclaredMethods()) {
            addIfOpen(seen, f, f.getReturnType().getName());
        }
        for (Constructor<?> f : GearModules.class.getDeclaredConstructors()) {
            addIfOpen(seen, f, "new");
        }
        String want = "[boolean fail, boolean handle, boolean replace, boolean works, int NONE, int anomalies,"
                + " int label, int lights, int running, int sensor, int tick, int time, int valves, int word,"
                + " long entry, new GearModules]";
        due("members that are not private: " + seen, seen.toString().equals(want), true);
        due("public and final", GearModules.class.getModifiers(), Modifier.PUBLIC | Modifier.FINAL);
        due("NONE", GearModules.NONE, -1);
    }

    private static void addIfOpen(TreeSet<String> seen, Member f, String type) {
        if (!Modifier.isPrivate(f.getModifiers()) && !f.isSynthetic()) {
            seen.add(type + " " + f.getName());
        }
    }

    private static void newObject() {
        part = "promise 1";
        GearModules x = new GearModules();
        due("time", x.time(), 0);
        due("valves(-1)", x.valves(-1), 0);
        due("lights", x.lights(), 0);
        due("entry(0)", x.entry(0), -1);
        for (int m = 0; m < 2; m++) {
            dueNew(x, m);
        }
        due("the handle is up", x.handle(false), false);
    }

    private static void dueNew(GearModules x, int m) {
        due("works", x.works(m), true);
        due("valves", x.valves(m), 0);
        due("anomalies", x.anomalies(m), 0);
        for (int s = 0; s < 6; s++) {
            due("sensor " + s, x.sensor(m, s), 28);
        }
        for (int k = 6; k < 16; k++) {
            due("running " + k, x.running(m, k), 0);
        }
    }

    private static void handle() {
        part = "promise 2";
        GearModules x = new GearModules();
        due("up when up", x.handle(false), false);
        due("down when up", x.handle(true), true);
        due("down when down", x.handle(true), false);
        due("up when down", x.handle(false), true);
        x.tick(REST, 1);
        due("nothing wanted, up", x.valves(0), 0);
        x.handle(true);
        due("no valve before the tick", x.valves(0), 0);
        x.tick(REST, 1);
        due("wanted, down", x.valves(0), 1);
    }

    private static void tick() {
        part = "promise 3";
        GearModules x = new GearModules();
        due("first", x.tick(REST, 1), 1);
        due("most", x.tick(REST, 100), 101);
        int[] refused = {0, -1, 101, 102, Integer.MIN_VALUE, Integer.MAX_VALUE};
        for (int n : refused) {
            due("n = " + n, x.tick(0, n), -1);
        }
        due("refused ticks do not count", x.tick(REST, 2), 103);
        for (int c = 0; c < 18; c++) {
            GearModules y = new GearModules();
            y.tick(1 << c, 1);
            for (int s = 0; s < 6; s++) {
                due("bit " + c + ", sensor " + s, y.sensor(1, s), s == c / 3 ? 28 - (4 << c % 3) : 28);
            }
        }
        GearModules z = new GearModules();
        due("other bits", z.tick(-1 << 18 | REST, 5), 5);
        due("other bits on valves", z.valves(0), 0);
        due("other bits on sensor 5", z.sensor(0, 5), 28);
    }

    private static void voting() {
        part = "promise 3, voting";
        for (int s = 0; s < 6; s++) {
            for (int channels = 0; channels < 8; channels++) {
                boolean on = Integer.bitCount(channels) >= 2;
                int valid = on ? channels : 7 - channels;
                for (int next = 0; next < 8; next++) {
                    GearModules x = new GearModules();
                    x.tick(channels << 3 * s, 1);
                    due("three", x.sensor(0, s), (on ? 1 : 0) + 4 * valid);
                    x.tick(next << 3 * s, 1);
                    if (valid != 7) {
                        dueOfTwo(x, s, on, valid, next);
                    }
                }
            }
        }
    }

    private static void dueOfTwo(GearModules x, int s, boolean on, int valid, int next) {
        boolean agree = (next & valid) == 0 || (next & valid) == valid;
        int after = agree ? ((next & valid) == valid ? 1 : 0) : (on ? 1 : 0) + 2;
        due("two", x.sensor(0, s), after + 4 * valid);
        due("anomaly", x.anomalies(0), agree ? 0 : 1 << s);
        if (!agree) {
            x.tick(0, 1);
            due("broken, all off", x.sensor(0, s), after + 4 * valid);
            x.tick(7 << 3 * s, 1);
            due("broken, all on", x.sensor(0, s), after + 4 * valid);
        }
    }

    private static void wantedValves() {
        part = "promise 3, wanted valves";
        for (int down = 0; down < 2; down++) {
            for (int values = 0; values < 16; values++) {
                boolean extended = (values & 1) != 0;
                boolean retracted = (values & 2) != 0;
                boolean open = (values & 4) != 0;
                boolean closed = (values & 8) != 0;
                boolean right = down == 1 ? extended && !retracted : retracted && !extended;
                int want = right ? (closed ? 0 : 5) : open ? (down == 1 ? 11 : 19) : 3;
                int channels = (extended ? EXTENDED : 0) | (retracted ? RETRACTED : 0) | (open ? OPEN : 0) | (closed ? CLOSED : 0);
                GearModules x = new GearModules();
                x.handle(down == 1);
                x.tick(channels, 2);
                due("general first, " + values + ", down " + down, x.valves(0), want == 0 ? 0 : 1);
                x.tick(channels, 1);
                due("values " + values + ", down " + down, x.valves(0), want);
                x.tick(channels | PRESSURE | SWITCH, 1);
                due("with pressure and switch " + values + ", down " + down, x.valves(0), want);
            }
        }
    }

    private static void valveGaps() {
        part = "promise 3, valves";
        for (int n = 0; n < 4; n++) {
            GearModules x = new GearModules();
            x.handle(true);
            if (n > 0) {
                x.tick(REST, n);
            }
            x.handle(false);
            x.tick(REST, 1);
            due("general after " + n + " wanted ticks", x.valves(0), n == 3 ? 1 : 0);
        }
        GearModules x = new GearModules();
        x.handle(true);
        x.tick(REST, 3);
        due("doors begin to open", x.valves(1), 3);
        x.handle(false);
        for (int i = 1; i <= 10; i++) {
            x.tick(REST, 1);
            due("general, tick " + i + " after", x.valves(1), 1);
        }
        x.tick(REST, 1);
        due("general, tick 11 after", x.valves(1), 0);
        x.handle(true);
        x.tick(REST, 2);
        due("two ticks anew", x.valves(1), 1);
        x.tick(REST, 1);
        due("doors anew", x.valves(1), 3);

        GearModules y = new GearModules();
        y.tick(RETRACTED, 3);
        due("doors close", y.valves(0), 5);
        y.handle(true);
        y.tick(RETRACTED | OPEN, 1);
        due("1 waits for 2, 3 does not", y.valves(0), 9);
        due("the light of valve 3 alone", y.lights(), 2);
        y.handle(false);
        y.tick(RETRACTED | EXTENDED | OPEN, 1);
        due("4 waits for 3, 1 does not", y.valves(0), 3);
        y.tick(RETRACTED | EXTENDED | OPEN, 1);
        due("4 a tick later", y.valves(0), 19);
        y.handle(true);
        y.tick(RETRACTED | OPEN, 1);
        due("3 waits for 4", y.valves(0), 3);
        y.handle(false);
        y.tick(RETRACTED | OPEN, 1);
        due("2 waits for 1", y.valves(0), 1);
        y.tick(RETRACTED | OPEN, 1);
        due("2 a tick later", y.valves(0), 5);
        y.handle(true);
        y.tick(EXTENDED | OPEN, 1);
        y.handle(false);
        y.tick(EXTENDED | OPEN, 1);
        due("1 waits for 2, 4 does not", y.valves(0), 17);
        due("the light of valve 4 alone", y.lights() & 2, 2);
    }

    /** Channels and handle under which, after three ticks, the condition of one anomaly holds. */
    private static int channelsFor(int k) {
        int[] channels = {0, 0, 0, 0, 0, 0,
            EXTENDED | PRESSURE,
            RETRACTED | PRESSURE,
            RETRACTED | EXTENDED | OPEN | PRESSURE,
            OPEN | PRESSURE,
            RETRACTED | EXTENDED | OPEN | PRESSURE,
            OPEN | PRESSURE,
            0,
            REST | PRESSURE,
            0,
            REST | SWITCH};
        return channels[k];
    }

    private static int breakFor(int k) {
        int[] channels = {0, 0, 0, 0, 0, 0,
            EXTENDED | OPEN | PRESSURE,
            RETRACTED | CLOSED | PRESSURE,
            EXTENDED | OPEN | PRESSURE,
            EXTENDED | RETRACTED | OPEN | PRESSURE,
            OPEN | PRESSURE,
            RETRACTED | EXTENDED | OPEN | PRESSURE,
            PRESSURE,
            REST,
            0,
            REST};
        return channels[k];
    }

    private static void conditions() {
        part = "promises 3, 10 and 11, conditions";
        int[] limits = {0, 0, 0, 0, 0, 0, 70, 70, 70, 100, 70, 100, 20, 100, 0, 30};
        for (int k = 6; k < 16; k++) {
            if (k != 14) {
                for (int m = 0; m < 2; m++) {
                    conditionReachesLimit(k, m, limits[k]);
                    conditionBreaksBeforeLimit(k, m, limits[k]);
                }
            }
        }
    }

    /** A valve that is on is not enough by itself, and neither is a sensor. */
    private static void halfConditions() {
        part = "promise 11, half a condition";
        GearModules x = new GearModules();
        x.handle(true);
        x.tick(OPEN | PRESSURE, 3);
        due("valve 3 on, retracted off", x.running(0, 8), 0);
        due("valve 1 on, doors open on", x.running(0, 6), 0);
        due("valve 0 on, pressure on", x.running(0, 12), 0);
        due("pressure on, valve 0 on", x.running(0, 13), 0);
        x.tick(EXTENDED | RETRACTED | OPEN, 1);
        due("valve 3 on, extended on", x.running(0, 9), 0);
        due("valve 3 on, retracted on", x.running(0, 8), 1);
        due("extended on, valve 4 off", x.running(0, 10), 0);
        GearModules y = new GearModules();
        y.tick(OPEN, 3);
        due("valve 4 on, extended off", y.running(0, 10), 0);
        y.tick(EXTENDED | RETRACTED | OPEN, 1);
        due("valve 4 on, retracted on", y.running(0, 11), 0);
        due("retracted on, valve 3 off", y.running(0, 8), 0);
        GearModules z = new GearModules();
        z.tick(REST, 3);
        due("pressure off, valve 0 off", z.running(0, 12), 0);
        due("valve 0 off, pressure off", z.running(0, 13), 0);
        due("doors open off, valve 1 off", z.running(0, 6), 0);
        due("extended off, valve 3 off", z.running(0, 9), 0);
    }

    private static GearModules upToCondition(int k) {
        GearModules x = new GearModules();
        if (k == 8 || k == 9) {
            x.handle(true);
        }
        if (k < 12) {
            x.tick(channelsFor(k), 2);
        }
        return x;
    }

    private static void conditionReachesLimit(int k, int m, int limit) {
        GearModules x = upToCondition(k);
        due("before, " + k, x.running(m, k), 0);
        x.tick(channelsFor(k), 1);
        due("begins, " + k, x.running(m, k), 1);
        x.tick(channelsFor(k), limit - 2);
        due("one before the limit, " + k, x.running(m, k), limit - 1);
        due("not yet, " + k, x.anomalies(m) >> k & 1, 0);
        int last = x.tick(channelsFor(k), 1);
        due("at the limit, " + k, x.running(m, k), limit);
        due("got, " + k, x.anomalies(m) >> k & 1, 1);
        due("record, " + k, hasRecord(x, last * 32L + m * 16 + k), true);
        x.tick(channelsFor(k), 7);
        due("no more than the limit, " + k, x.running(m, k), limit);
        x.tick(breakFor(k), 1);
        due("broken off, " + k, x.running(m, k), 0);
        due("stays, " + k, x.anomalies(m) >> k & 1, 1);
    }

    private static void conditionBreaksBeforeLimit(int k, int m, int limit) {
        GearModules x = upToCondition(k);
        x.tick(channelsFor(k), limit - 1);
        x.tick(breakFor(k), 1);
        due("broken off early, " + k, x.running(m, k), 0);
        x.tick(channelsFor(k), 1);
        due("not got, " + k, x.anomalies(m) >> k & 1, 0);
    }

    private static boolean hasRecord(GearModules x, long record) {
        for (int k = 0; k < 16; k++) {
            if (x.entry(k) == record) {
                return true;
            }
        }
        return false;
    }

    private static void switchWait() {
        part = "promises 2, 3 and 11, the wait for the switch";
        GearModules x = new GearModules();
        x.tick(REST | PRESSURE, 20);
        due("no move, no wait", x.running(0, 14), 0);
        due("no move, no anomaly", x.anomalies(0), 0);
        x.handle(true);
        due("at no ticks", x.running(0, 14), 0);
        for (int i = 1; i <= 9; i++) {
            x.tick(REST | PRESSURE, 1);
            due("waits", x.running(0, 14), i);
        }
        due("not moved", x.handle(true), false);
        due("a handle that is not moved begins nothing", x.running(0, 14), 9);
        due("not yet", x.anomalies(0), 0);
        x.tick(REST | PRESSURE, 1);
        due("the tenth", x.anomalies(0), 1 << 14);
        due("the wait has ended", x.running(0, 14), 0);
        due("record", x.entry(1), 30 * 32 + 14);
        x.tick(REST | PRESSURE, 1);
        due("it stays ended", x.running(0, 14), 0);
        x.handle(false);
        x.tick(REST | PRESSURE, 10);
        due("had it: no new record", x.entry(1), 30 * 32 + 14);

        GearModules y = new GearModules();
        y.handle(true);
        y.tick(REST, 9);
        y.tick(REST | SWITCH, 1);
        due("switch at the tenth tick", y.anomalies(0), 0);
        due("ends without more", y.running(0, 14), 0);
        y.tick(REST, 9);
        due("and stays ended", y.running(1, 14), 0);
        y.handle(false);
        y.tick(REST, 6);
        y.handle(true);
        due("anew", y.running(1, 14), 0);
        y.tick(REST, 9);
        due("nine of the new wait", y.running(1, 14), 9);
        due("not yet", y.anomalies(1) >> 14 & 1, 0);

        GearModules z = new GearModules();
        z.handle(true);
        z.tick(REST, 3);
        z.replace(1);
        z.fail(0);
        z.tick(REST, 5);
        due("failed", z.running(0, 14), 0);
        due("put in after the move", z.running(1, 14), 0);
        z.handle(false);
        z.tick(REST, 5);
        due("failed before the move", z.running(0, 14), 0);
        due("put in before the move", z.running(1, 14), 5);
        z.fail(1);
        due("no longer waits", z.running(1, 14), 0);
        z.handle(true);
        z.replace(0);
        z.tick(REST, 10);
        due("a failed one that was moved", z.anomalies(1), 0);
        due("a new one in place of a failed one", z.anomalies(0) >> 14 & 1, 0);
    }

    private static void fail() {
        part = "promise 4";
        GearModules x = new GearModules();
        for (int m : WRONG_MODULES) {
            due("m = " + m, x.fail(m), false);
        }
        due("m = -1", x.fail(-1), false);
        due("works", x.works(0) && x.works(1), true);
        due("fails", x.fail(1), true);
        due("fails again", x.fail(1), false);
        due("the other works", x.works(0), true);
        due("the other fails", x.fail(0), true);
        due("both failed", x.works(0) || x.works(1), false);
        due("ticks go on", x.tick(0, 3), 3);
        x.replace(1);
        due("the new one may fail", x.fail(1), true);
    }

    private static void failedModuleStays() {
        part = "promise 4, a failed module stays as it was";
        GearModules x = new GearModules();
        x.handle(true);
        x.tick(OPEN | 1 << 15, 6);
        due("valves", x.valves(0), 11);
        x.fail(0);
        due("off at once", x.valves(0), 0);
        due("the other's on", x.valves(-1), 11);
        x.tick(EXTENDED | RETRACTED | CLOSED | PRESSURE, 100);
        due("off later", x.valves(0), 0);
        due("sensor 0", x.sensor(0, 0), 28);
        due("sensor 2", x.sensor(0, 2), 29);
        due("sensor 5", x.sensor(0, 5), 24);
        due("running 9", x.running(0, 9), 4);
        due("running 12", x.running(0, 12), 6);
        due("running 14", x.running(0, 14), 0);
        due("anomalies", x.anomalies(0), 0);
        GearModules y = new GearModules();
        y.tick(1, 1);
        y.tick(2, 1);
        y.fail(0);
        due("a broken sensor stays", y.sensor(0, 0), 2 + 8 + 16);
        due("its anomaly stays", y.anomalies(0), 1);
    }

    private static void replace() {
        part = "promise 5";
        GearModules x = new GearModules();
        for (int m : WRONG_MODULES) {
            due("m = " + m, x.replace(m), false);
        }
        due("m = -1", x.replace(-1), false);
        for (int m = 0; m < 2; m++) {
            GearModules y = new GearModules();
            y.handle(true);
            y.tick(OPEN | EXTENDED & 1 | SWITCH & 1 << 15, 50);
            y.tick(OPEN | EXTENDED & 2 | SWITCH, 50);
            y.fail(m);
            due("in place of a failed one", y.replace(m), true);
            dueNew(y, m);
            due("the other is as it was", y.anomalies(1 - m) != 0, true);
            due("the records stay", y.entry(0) != -1, true);
            y.tick(OPEN, 3);
            due("it begins to work", y.valves(m), 11);
            due("in place of one that works", y.replace(m), true);
            dueNew(y, m);
            y.tick(OPEN, 2);
            due("two ticks of its own", y.valves(m), 1);
            due("the handle stays", y.handle(true), false);
            y.replace(m);
            y.handle(false);
            y.tick(REST, 1);
            due("general has no past", y.valves(m), 0);
        }
        GearModules z = new GearModules();
        z.tick(1, 1);
        z.tick(2, 1);
        z.replace(1);
        z.tick(1, 1);
        z.tick(2, 1);
        due("a new one gets an anomaly anew", z.entry(0), 4 * 32 + 16);
        due("once", z.entry(1), 2 * 32 + 16);
    }

    private static void works() {
        part = "promise 6";
        GearModules x = new GearModules();
        for (int m : WRONG_MODULES) {
            due("m = " + m, x.works(m), false);
        }
        due("m = -1", x.works(-1), false);
        x.fail(0);
        due("failed", x.works(0), false);
        due("the other", x.works(1), true);
        x.replace(0);
        due("replaced", x.works(0), true);
    }

    private static void time() {
        part = "promise 7";
        GearModules x = new GearModules();
        due("none", x.time(), 0);
        x.tick(0, 100);
        due("a hundred", x.time(), 100);
        x.tick(0, 101);
        x.handle(true);
        x.replace(0);
        due("no tick since", x.time(), 100);
        for (int i = 0; i < 400; i++) {
            x.tick(0, 100);
        }
        due("many", x.time(), 40100);
    }

    private static void valves() {
        part = "promise 8";
        GearModules x = new GearModules();
        for (int m : WRONG_MODULES) {
            due("m = " + m, x.valves(m), -1);
        }
        x.tick(RETRACTED | OPEN, 3);
        due("0", x.valves(0), 5);
        x.replace(1);
        x.handle(true);
        x.tick(RETRACTED, 1);
        due("of 0", x.valves(0), 1);
        due("of 1", x.valves(1), 1);
        x.tick(RETRACTED | OPEN, 1);
        due("of 0, later", x.valves(0), 11);
        due("of 1, later", x.valves(1), 1);
        due("of either", x.valves(-1), 11);
        x.fail(0);
        due("of either, 0 failed", x.valves(-1), 1);
        x.fail(1);
        due("of either, both failed", x.valves(-1), 0);
        // Each module may have valves on that the other has off.
        GearModules y = new GearModules();
        y.tick(RETRACTED | 1, 3);
        y.replace(1);
        y.tick(RETRACTED | 2, 3);
        due("0 is broken, goes on closing", y.valves(0), 5);
        due("1 also closes", y.valves(1), 5);
        y.tick(RETRACTED | EXTENDED, 2);
        due("0 still closes", y.valves(0), 5);
        due("1 opens", y.valves(1), 3);
        due("both", y.valves(-1), 7);
    }

    private static void sensor() {
        part = "promise 9";
        GearModules x = new GearModules();
        x.tick(0b101_111_000_001_010_100, 1);
        int[] want = {12, 20, 24, 28, 29, 21};
        for (int s = 0; s < 6; s++) {
            due("sensor " + s, x.sensor(1, s), want[s]);
        }
        x.tick(0b001_000_000_010_001_010, 1);
        int[] then = {14, 22, 26, 28, 28, 23};
        for (int s = 0; s < 6; s++) {
            due("sensor " + s + ", then", x.sensor(1, s), then[s]);
        }
        for (int m : WRONG_MODULES) {
            due("m = " + m, x.sensor(m, 0), -1);
        }
        due("m = -1", x.sensor(-1, 0), -1);
        int[] sensors = {-1, 6, 7, Integer.MIN_VALUE, Integer.MAX_VALUE};
        for (int s : sensors) {
            due("s = " + s, x.sensor(0, s), -1);
        }
        x.replace(0);
        due("each module knows its own", x.sensor(0, 5), 28);
        due("the other's stays", x.sensor(1, 5), 23);
    }

    private static void anomalies() {
        part = "promise 10";
        GearModules x = new GearModules();
        for (int m : WRONG_MODULES) {
            due("m = " + m, x.anomalies(m), -1);
        }
        due("m = -1", x.anomalies(-1), -1);
        x.tick(0b001_001_001_001_001_001, 1);
        due("an invalid channel is none", x.anomalies(0), 0);
        x.tick(0b010_010_010_010_010_010, 1);
        due("all sensors broken", x.anomalies(0), 63);
        x.tick(0, 100);
        due("and more", x.anomalies(0), 63 | 1 << 6 | 1 << 12);
        due("of 1", x.anomalies(1), 63 | 1 << 6 | 1 << 12);
        x.replace(1);
        due("of a new one", x.anomalies(1), 0);
    }

    private static void running() {
        part = "promise 11";
        GearModules x = new GearModules();
        x.tick(REST | PRESSURE | SWITCH, 5);
        due("13", x.running(0, 13), 5);
        due("15", x.running(0, 15), 5);
        due("12", x.running(0, 12), 0);
        int[] none = {5, 0, -1, 16, 17, Integer.MIN_VALUE, Integer.MAX_VALUE};
        for (int k : none) {
            due("k = " + k, x.running(0, k), -1);
        }
        for (int m : WRONG_MODULES) {
            due("m = " + m, x.running(m, 13), -1);
        }
        due("m = -1", x.running(-1, 13), -1);
        x.replace(1);
        x.fail(1);
        due("failed without a tick", x.running(1, 13), 0);
        x.fail(0);
        x.tick(REST, 2);
        due("as at its last tick", x.running(0, 13), 5);
        x.replace(0);
        due("of a new one", x.running(0, 13), 0);
        x.tick(REST | PRESSURE, 3);
        due("its own ticks alone", x.running(0, 13), 3);
    }

    private static void lights() {
        part = "promise 12";
        GearModules x = new GearModules();
        x.tick(EXTENDED | RETRACTED, 1);
        due("both", x.lights(), 0);
        x.tick(EXTENDED, 1);
        due("extended", x.lights(), 1);
        x.tick(EXTENDED, 1);
        due("extended, doors open", x.lights(), 3);
        x.fail(0);
        due("one works", x.lights(), 3);
        x.fail(1);
        due("none works", x.lights(), 0);
        x.replace(0);
        x.tick(EXTENDED, 2);
        due("general alone", x.lights(), 1);
        x.tick(EXTENDED, 18);
        due("anomaly", x.lights(), 7);
        x.fail(0);
        due("a failed one's anomaly", x.lights(), 4);
        x.replace(0);
        due("replaced", x.lights(), 0);
        for (int down = 0; down < 2; down++) {
            for (int doors = 0; doors < 2; doors++) {
                GearModules y = new GearModules();
                y.handle(down == 1);
                y.fail(down);
                y.tick(doors == 1 ? OPEN : down == 1 ? EXTENDED : RETRACTED, 3);
                due("a valve of one module", y.lights() & 2, 2);
            }
        }
    }

    private static void entry() {
        part = "promise 13";
        sameTickOrder();
        GearModules x = new GearModules();
        due("none yet", x.entry(0), -1);
        x.tick(0b001_001_001_001_001_001, 1);
        x.tick(0b010_010_010_010_010_010, 1);
        for (int k = 0; k < 12; k++) {
            long want = 2 * 32 + (k < 6 ? 16 + 5 - k : 11 - k);
            due("k = " + k, x.entry(k), want);
        }
        due("k = 12", x.entry(12), -1);
        int[] none = {-1, 16, 17, Integer.MIN_VALUE, Integer.MAX_VALUE};
        for (int k : none) {
            due("k = " + k, x.entry(k), -1);
        }
        x.replace(0);
        x.tick(0b001_001_001_001_001_001, 1);
        x.tick(0b010_010_010_010_010_010, 1);
        for (int k = 0; k < 16; k++) {
            long want = k < 6 ? 4 * 32 + 5 - k : 2 * 32 + (k < 12 ? 16 + 11 - k : 17 - k);
            due("the latest sixteen, k = " + k, x.entry(k), want);
        }
        for (int k : none) {
            due("sixteen kept, k = " + k, x.entry(k), -1);
        }
        GearModules y = new GearModules();
        for (int i = 0; i < 300; i++) {
            y.tick(REST, 100);
        }
        y.tick(1 | REST, 1);
        y.tick(2 | REST, 1);
        due("a late tick", y.entry(0), 30002 * 32 + 16);
        GearModules z = new GearModules();
        z.fail(0);
        z.tick(REST | SWITCH, 30);
        due("one module's", z.entry(0), 30 * 32 + 16 + 15);
        due("one record", z.entry(1), -1);
    }

    /** At one tick the order is by anomaly, not by the step at which the module finds it. */
    private static void sameTickOrder() {
        GearModules x = new GearModules();
        x.handle(true);
        for (int i = 0; i < 2; i++) {
            x.tick(REST | 1, 5);
            x.handle(false);
            x.handle(true);
        }
        x.tick(REST | 1, 9);
        due("none yet", x.entry(0), -1);
        x.tick(REST | 2, 1);
        int[] order = {16 + 14, 16 + 12, 16, 14, 12, 0};
        for (int k = 0; k < 6; k++) {
            due("at one tick, k = " + k, x.entry(k), 20 * 32 + order[k]);
        }
        due("no more", x.entry(6), -1);
    }

    private static void word() {
        part = "promise 14";
        GearModules x = new GearModules();
        due("new, 0", x.word(0, 0), odd(1 << 8 | 3 << 29));
        due("new, 1", x.word(255, 1), odd(255 | 2 << 8 | 3 << 29));
        int[] labels = {-1, 256, 257, Integer.MIN_VALUE, Integer.MAX_VALUE};
        for (int label : labels) {
            due("label " + label, x.word(label, 0), 0);
        }
        for (int m : WRONG_MODULES) {
            due("m = " + m, x.word(1, m), 0);
        }
        due("m = -1", x.word(1, -1), 0);
        for (int label = 0; label < 256; label++) {
            due("label " + label, x.word(label, 0), odd(label | 1 << 8 | 3 << 29));
        }
        GearModules y = new GearModules();
        y.handle(true);
        y.tick(OPEN | PRESSURE & 1 << 12, 3);
        due("valves and values", y.word(7, 0), odd(7 | 1 << 8 | 11 << 10 | 4 << 15 | 3 << 29));
        y.tick(OPEN | PRESSURE & 2 << 12, 1);
        due("broken and anomaly", y.word(7, 0), odd(7 | 1 << 8 | 11 << 10 | 4 << 15 | 16 << 21 | 1 << 29));
        y.fail(0);
        due("failed", y.word(7, 0), odd(7 | 1 << 8 | 4 << 15 | 16 << 21));
        y.handle(false);
        y.tick(RETRACTED | EXTENDED | OPEN | CLOSED | SWITCH, 3);
        due("of 1", y.word(128, 1), odd(128 | 2 << 8 | 19 << 10 | 47 << 15 | 16 << 21 | 1 << 29));
        y.tick(0b001_000_001_001_001_001, 1);
        y.tick(0b010_000_010_010_010_010, 1);
        due("all broken", y.word(0, 1) >> 21 & 63, 63);
        due("bits 27 and 28", y.word(0, 1) >> 27 & 3, 0);
    }

    private static int odd(int bits) {
        return Integer.bitCount(bits) % 2 == 1 ? bits : bits | Integer.MIN_VALUE;
    }

    private static void label() {
        part = "promise 15";
        GearModules x = new GearModules();
        for (int label = 0; label < 256; label++) {
            int want = Integer.reverse(label) >>> 24;
            int bits = label | 0x5a5a00;
            due("odd, " + label, x.label(odd(bits)), want);
        }
        for (int bit = 0; bit < 32; bit++) {
            due("bit " + bit, x.label(1 << bit), bit < 8 ? 128 >> bit : 0);
            due("all but bit " + bit, x.label(~(1 << bit)), bit < 8 ? 255 - (128 >> bit) : 255);
            due("two bits, " + bit, x.label(1 << bit | 1 << (bit + 1) % 32), -1);
        }
        due("0", x.label(0), -1);
        due("-1", x.label(-1), -1);
        due("of a word", x.label(x.word(142, 1)), 0b01110001);
    }

    private static void refusedCallsChangeNothing() {
        part = "a call that is refused changes nothing";
        GearModules x = new GearModules();
        GearModules y = new GearModules();
        for (int i = 0; i < 2; i++) {
            GearModules z = i == 0 ? x : y;
            z.handle(true);
            z.tick(OPEN | 1, 4);
            z.tick(OPEN | 2, 1);
            z.fail(1);
        }
        x.handle(true);
        x.tick(RETRACTED, 0);
        x.tick(RETRACTED, 101);
        x.fail(1);
        x.fail(2);
        x.fail(-1);
        x.replace(2);
        x.replace(-1);
        due("time", x.time(), y.time());
        due("lights", x.lights(), y.lights());
        for (int m = 0; m < 2; m++) {
            due("word", x.word(0, m), y.word(0, m));
            due("anomalies", x.anomalies(m), y.anomalies(m));
            for (int s = 0; s < 6; s++) {
                due("sensor", x.sensor(m, s), y.sensor(m, s));
            }
            for (int k = 6; k < 16; k++) {
                due("running", x.running(m, k), y.running(m, k));
            }
        }
        for (int k = 0; k < 16; k++) {
            due("entry", x.entry(k), y.entry(k));
        }
        due("tick", x.tick(OPEN, 1), y.tick(OPEN, 1));
        due("valves", x.valves(0), y.valves(0));
    }
}
