import java.util.function.Consumer;

/** Each sentence of the document that names a boundary case, in the document's order, by a test of its own. */
public final class BoundaryTests {
    private static final int EXTENDED = 7;
    private static final int RETRACTED = 7 << 3;
    private static final int OPEN = 7 << 6;
    private static final int CLOSED = 7 << 9;
    private static final int PRESSURE = 7 << 12;
    private static final int SWITCH = 7 << 15;
    /** With the handle up nothing is wanted, with the handle down valve 1 is. */
    private static final int UP_REST = RETRACTED | CLOSED;
    /** With the handle down nothing is wanted, with the handle up valve 1 is. */
    private static final int DOWN_REST = EXTENDED | CLOSED;
    /** Channel 0 alone of each sensor, then channel 1 alone of each: all sensors become broken. */
    private static final int ALL_FIRST = 0b001_001_001_001_001_001;
    private static final int ALL_SECOND = 0b010_010_010_010_010_010;

    private static final int[] NO_MODULES = {-1, 2, 3, Integer.MIN_VALUE, Integer.MAX_VALUE};

    private static int sentences = 0;
    private static int checks = 0;
    private static int wrong = 0;
    private static String part = "";

    /** A condition's anomaly and limit, and channels under which it holds after a lead of ticks, or does not. */
    private record Condition(int k, int limit, boolean down, int lead, int channels, int without) {
        GearModules start() {
            GearModules x = new GearModules();
            x.handle(down);
            ticks(x, channels, lead);
            return x;
        }

        boolean isGot(GearModules x, int m) {
            return (x.anomalies(m) >> k & 1) == 1;
        }
    }

    private static final Condition[] CONDITIONS = {
        new Condition(6, 70, false, 2, EXTENDED | PRESSURE, EXTENDED | OPEN | PRESSURE),
        new Condition(7, 70, false, 2, RETRACTED | PRESSURE, RETRACTED | CLOSED | PRESSURE),
        new Condition(8, 70, true, 2, EXTENDED | RETRACTED | OPEN | PRESSURE, OPEN | PRESSURE),
        new Condition(9, 100, true, 2, OPEN | PRESSURE, EXTENDED | RETRACTED | OPEN | PRESSURE),
        new Condition(10, 70, false, 2, EXTENDED | RETRACTED | OPEN | PRESSURE, OPEN | PRESSURE),
        new Condition(11, 100, false, 2, OPEN | PRESSURE, EXTENDED | RETRACTED | OPEN | PRESSURE),
        new Condition(12, 20, false, 0, 0, PRESSURE),
        new Condition(13, 100, false, 0, UP_REST | PRESSURE, UP_REST),
        new Condition(15, 30, false, 0, UP_REST | SWITCH, UP_REST),
    };

    public static void main(String[] args) {
        use();
        voting();
        wanted();
        valveGaps();
        watching();
        waitForSwitch();
        records();
        changingCalls();
        answeringCalls();
        words();
        System.out.println(wrong == 0
                ? sentences + " sentences hold in " + checks + " checks"
                : wrong + " of " + checks + " checks are not as due");
        if (wrong != 0) {
            System.exit(1);
        }
    }

    private static void sentence(String where, String words, Runnable test) {
        part = where + ", \"" + words + "\"";
        sentences++;
        int before = checks;
        try {
            test.run();
        } catch (RuntimeException e) {
            due("no call throws, but one threw " + e, true, false);
        }
        due("the sentence has a check", checks > before, true);
    }

    private static void due(String what, long got, long want) {
        checks++;
        if (got != want) {
            wrong++;
            System.out.println(part + ": " + what + ": " + got + ", due is " + want);
        }
    }

    private static void due(String what, boolean got, boolean want) {
        due(what, got ? 1 : 0, want ? 1 : 0);
    }

    private static void due(String what, String got, String want) {
        checks++;
        if (!got.equals(want)) {
            wrong++;
            System.out.println(part + ": " + what + ":\n  " + got + ", due is\n  " + want);
        }
    }

    /** Ticks of any number, none included. */
    private static void ticks(GearModules x, int channels, int n) {
        for (int left = n; left > 0; left -= 100) {
            x.tick(channels, Math.min(left, 100));
        }
    }

    /** All that an object tells of one module. */
    private static String stateOf(GearModules x, int m) {
        StringBuilder all = new StringBuilder();
        all.append(x.works(m)).append(" valves ").append(x.valves(m)).append(" sensors");
        for (int s = 0; s < 6; s++) {
            all.append(' ').append(x.sensor(m, s));
        }
        all.append(" anomalies ").append(x.anomalies(m)).append(" running");
        for (int k = 6; k < 16; k++) {
            all.append(' ').append(x.running(m, k));
        }
        return all.append(" word ").append(x.word(0, m)).toString();
    }

    private static String stateOf(GearModules x) {
        StringBuilder all = new StringBuilder();
        all.append("time ").append(x.time()).append(" valves ").append(x.valves(-1));
        all.append(" lights ").append(x.lights()).append(" records");
        for (int k = 0; k < 16; k++) {
            all.append(' ').append(x.entry(k));
        }
        return all + " 0: " + stateOf(x, 0) + " 1: " + stateOf(x, 1);
    }

    // What it is, and Terms

    private static void use() {
        sentence("What it is", "at most 512 calls", BoundaryTests::lastOf512Calls);
        sentence("Terms", "TICKS are numbered 1, 2, ..", BoundaryTests::ticksAreNumbered);
        sentence("Terms", "The HANDLE is up at first.", BoundaryTests::handleIsUpAtFirst);
        sentence("Terms", "A failed module does nothing", BoundaryTests::failedDoesNothing);
        sentence("Terms", "its valves are off", BoundaryTests::failedHasValvesOff);
        sentence("Terms", "it stays as it was in all else", BoundaryTests::failedStays);
        sentence("Terms", "it no longer waits for the switch", BoundaryTests::failedDoesNotWait);
        sentence("Terms", "with what it knows alone", BoundaryTests::modulesKnowTheirOwn);
    }

    private static void lastOf512Calls() {
        GearModules x = new GearModules();
        for (int i = 1; i <= 509; i++) {
            due("call " + i, x.tick(UP_REST, 100), i * 100);
        }
        due("call 510", x.tick(UP_REST | 1, 1), 50901);
        due("call 511", x.tick(UP_REST | 2, 1), 50902);
        due("call 512", x.entry(0), 50902L * 32 + 16);
    }

    private static void ticksAreNumbered() {
        GearModules x = new GearModules();
        due("the first", x.tick(0, 1), 1);
        due("the second", x.tick(0, 1), 2);
        due("three more", x.tick(0, 3), 5);
        x.fail(0);
        x.fail(1);
        due("without a working module", x.tick(0, 1), 6);
        x.replace(0);
        due("of a new module", x.tick(0, 1), 7);
    }

    private static void handleIsUpAtFirst() {
        GearModules x = new GearModules();
        x.tick(UP_REST, 1);
        due("gears up are right", x.valves(0), 0);
        due("not moved", x.handle(false), false);
        x.tick(OPEN, 3);
        due("gears are retracted", x.valves(0), 19);
    }

    private static void failedDoesNothing() {
        GearModules x = new GearModules();
        x.tick(UP_REST | 1 << 15, 19);
        x.fail(0);
        String before = stateOf(x, 0);
        x.tick(EXTENDED | PRESSURE | 2 << 15, 100);
        due("no vote, no valve, no count, no anomaly", stateOf(x, 0), before);
        for (int k = 0; k < 16; k++) {
            due("no record of it", x.entry(k) == -1 || (x.entry(k) & 16) == 16, true);
        }
        x.handle(true);
        due("not at a move", stateOf(x, 0), before);
    }

    private static void failedHasValvesOff() {
        for (int m = 0; m < 2; m++) {
            GearModules x = new GearModules();
            x.tick(OPEN, 5);
            due("before", x.valves(m), 19);
            x.fail(m);
            due("at once", x.valves(m), 0);
            due("in its word", x.word(0, m) >> 10 & 31, 0);
            due("the other's stay on", x.valves(1 - m), 19);
            x.tick(OPEN, 20);
            due("at later ticks", x.valves(m), 0);
        }
    }

    private static void failedStays() {
        GearModules x = new GearModules();
        x.tick(OPEN | SWITCH | 1, 50);
        x.tick(OPEN | SWITCH | 2, 1);
        x.fail(1);
        due("value on", x.sensor(1, 2), 29);
        due("broken", x.sensor(1, 0), 2 + 8 + 16);
        due("anomalies", x.anomalies(1), 1 | 1 << 12 | 1 << 15);
        due("running 11", x.running(1, 11), 49);
        due("running 12", x.running(1, 12), 20);
        due("its records", x.entry(0), 51 * 32 + 16);
        due("the light of its anomaly", x.lights() & 4, 4);
        x.replace(0);
        due("the light of its anomaly alone", x.lights(), 4);
    }

    private static void failedDoesNotWait() {
        GearModules x = new GearModules();
        x.handle(true);
        x.tick(UP_REST, 5);
        due("waits", x.running(0, 14), 5);
        x.fail(0);
        due("failed", x.running(0, 14), 0);
        x.tick(UP_REST, 20);
        due("no anomaly 14", x.anomalies(0) >> 14 & 1, 0);
        due("the other has it", x.anomalies(1) >> 14 & 1, 1);
    }

    private static void modulesKnowTheirOwn() {
        GearModules x = new GearModules();
        x.tick(UP_REST | 1, 3);
        x.replace(1);
        x.tick(UP_REST | 2, 1);
        due("broken in 0", x.sensor(0, 0), 2 + 8 + 16);
        due("a channel invalid in 1", x.sensor(1, 0), 4 + 16);
        due("anomaly of 0", x.anomalies(0), 1);
        due("none of 1", x.anomalies(1), 0);
        x.tick(DOWN_REST, 3);
        due("0 still takes the gears to be up", x.valves(0), 3);
        due("extended in 0", x.sensor(0, 0) & 1, 0);
        due("extended in 1", x.sensor(1, 0) & 1, 1);
    }

    // Voting

    private static void voting() {
        String where = "Terms, voting";
        sentence(where, "all channels are valid, no sensor is BROKEN, and its VALUE is off", BoundaryTests::newSensors);
        sentence(where, "the value becomes what at least two of them are", BoundaryTests::threeVote);
        sentence(where, "a channel that is something else becomes invalid for good", BoundaryTests::invalidForGood);
        sentence(where, "If two are valid: the value becomes what they are, if they agree", BoundaryTests::twoAgree);
        sentence(where, "the sensor becomes broken for good and the value stays", BoundaryTests::brokenForGood);
        sentence(where, "The value of a broken sensor stays", BoundaryTests::brokenValueStays);
        sentence(where, "its channels stay valid or invalid as they are", BoundaryTests::brokenChannelsStay);
    }

    private static void newSensors() {
        GearModules x = new GearModules();
        for (int s = 0; s < 6; s++) {
            due("of a new object", x.sensor(0, s), 28);
        }
        x.tick(0b111_110_101_011_110_111, 2);
        x.tick(0b011_011_011_101_011_110, 2);
        x.replace(0);
        for (int s = 0; s < 6; s++) {
            due("of a new module", x.sensor(0, s), 28);
        }
    }

    private static void threeVote() {
        for (int s = 0; s < 6; s++) {
            for (int channels = 0; channels < 8; channels++) {
                for (int before = 0; before < 8; before += 7) {
                    GearModules x = new GearModules();
                    x.tick(before << 3 * s, 1);
                    x.tick(channels << 3 * s, 1);
                    due("channels " + channels + " of " + s, x.sensor(1, s) & 3, Integer.bitCount(channels) / 2);
                }
            }
        }
    }

    private static void invalidForGood() {
        for (int s = 0; s < 6; s++) {
            for (int c = 0; c < 3; c++) {
                int others = 7 - (1 << c);
                GearModules x = new GearModules();
                x.tick(1 << c << 3 * s, 1);
                due("on, the others off", x.sensor(0, s), 4 * others);
                x.tick(0, 100);
                due("off like the others", x.sensor(0, s), 4 * others);
                x.tick(7 << 3 * s, 100);
                due("on like the others", x.sensor(0, s), 1 + 4 * others);
                x.tick(1 << c << 3 * s, 1);
                due("it has no vote", x.sensor(0, s), 4 * others);
                GearModules y = new GearModules();
                y.tick(others << 3 * s, 1);
                due("off, the others on", y.sensor(0, s), 1 + 4 * others);
                y.tick(7 << 3 * s, 100);
                due("again on like the others", y.sensor(0, s), 1 + 4 * others);
            }
        }
    }

    private static void twoAgree() {
        for (int c = 0; c < 3; c++) {
            int others = 7 - (1 << c);
            for (int invalid = 0; invalid <= 1 << c; invalid += 1 << c) {
                GearModules x = new GearModules();
                x.tick(UP_REST | 1 << c << 15, 1);
                x.tick(UP_REST | (others | invalid) << 15, 1);
                due("both on", x.sensor(0, 5), 1 + 4 * others);
                x.tick(UP_REST | invalid << 15, 1);
                due("both off", x.sensor(0, 5), 4 * others);
                due("no anomaly", x.anomalies(0), 0);
            }
        }
    }

    private static void brokenForGood() {
        for (int s = 0; s < 6; s++) {
            for (int value = 0; value < 2; value++) {
                for (int c = 1; c < 3; c++) {
                    GearModules x = new GearModules();
                    x.tick((value == 1 ? 6 : 1) << 3 * s, 1);
                    x.tick(1 << c << 3 * s, 1);
                    due("broken, the value stays", x.sensor(0, s), value + 2 + 8 + 16);
                    due("its anomaly", x.anomalies(0), 1 << s);
                    x.tick(0, 10);
                    x.tick(7 << 3 * s, 10);
                    due("still broken", x.sensor(0, s) & 2, 2);
                }
            }
        }
    }

    private static void brokenValueStays() {
        for (int s = 0; s < 6; s++) {
            for (int value = 0; value < 2; value++) {
                GearModules x = new GearModules();
                x.tick((value == 1 ? 6 : 1) << 3 * s, 1);
                x.tick(2 << 3 * s, 1);
                x.tick((value == 1 ? 0 : 7) << 3 * s, 10);
                due("all channels the other way", x.sensor(0, s) & 1, value);
                x.tick((value == 1 ? 1 : 6) << 3 * s, 10);
                due("the valid ones the other way", x.sensor(0, s) & 1, value);
            }
        }
    }

    private static void brokenChannelsStay() {
        for (int c = 0; c < 3; c++) {
            int others = 7 - (1 << c);
            int second = 1 << (c + 1) % 3;
            GearModules x = new GearModules();
            x.tick(1 << c, 1);
            x.tick(second, 1);
            due("at the tick that breaks it", x.sensor(0, 0) >> 2, others);
            for (int channels = 0; channels < 8; channels++) {
                x.tick(channels, 2);
                due("later, channels " + channels, x.sensor(0, 0) >> 2, others);
            }
        }
    }

    // Wanted valves

    private static void wanted() {
        String where = "Terms, wanted";
        sentence(where, "extended is on and retracted off, or, with the handle up, retracted is on and extended off",
                BoundaryTests::gearsAreRight);
        sentence(where, "if doors open is on, valve 3 (handle down) or 4 (handle up)", BoundaryTests::gearsMoveBehindOpenDoors);
        sentence(where, "right and doors closed is off: valve 2 is wanted. Otherwise none is.", BoundaryTests::doorsClose);
    }

    private static int valvesAfter(boolean down, int channels, int n) {
        GearModules x = new GearModules();
        x.handle(down);
        x.tick(channels, n);
        return x.valves(0);
    }

    private static void gearsAreRight() {
        due("down, extended", valvesAfter(true, EXTENDED | CLOSED, 3), 0);
        due("down, retracted", valvesAfter(true, RETRACTED | CLOSED, 3), 3);
        due("down, both", valvesAfter(true, EXTENDED | RETRACTED | CLOSED, 3), 3);
        due("down, neither", valvesAfter(true, CLOSED, 3), 3);
        due("up, extended", valvesAfter(false, EXTENDED | CLOSED, 3), 3);
        due("up, retracted", valvesAfter(false, RETRACTED | CLOSED, 3), 0);
        due("up, both", valvesAfter(false, EXTENDED | RETRACTED | CLOSED, 3), 3);
        due("up, neither", valvesAfter(false, CLOSED, 3), 3);
    }

    private static void gearsMoveBehindOpenDoors() {
        for (int doors = OPEN; doors <= (OPEN | CLOSED); doors += CLOSED) {
            due("down, open", valvesAfter(true, RETRACTED | doors, 3), 11);
            due("up, open", valvesAfter(false, EXTENDED | doors, 3), 19);
            due("down, both", valvesAfter(true, EXTENDED | RETRACTED | doors, 3), 11);
            due("up, neither", valvesAfter(false, doors, 3), 19);
        }
        for (int doors = 0; doors <= CLOSED; doors += CLOSED) {
            due("down, not open", valvesAfter(true, RETRACTED | doors, 3), 3);
            due("up, not open", valvesAfter(false, EXTENDED | doors, 3), 3);
        }
    }

    private static void doorsClose() {
        for (int open = 0; open <= OPEN; open += OPEN) {
            due("down, not closed", valvesAfter(true, EXTENDED | open, 3), 5);
            due("up, not closed", valvesAfter(false, RETRACTED | open, 3), 5);
            due("down, closed", valvesAfter(true, EXTENDED | CLOSED | open, 3), 0);
            due("up, closed", valvesAfter(false, RETRACTED | CLOSED | open, 3), 0);
        }
    }

    // Valves

    private static void valveGaps() {
        String where = "Terms, valves";
        sentence(where, "Before the first tick of a new module all its valves were off for ever.", BoundaryTests::offForEver);
        sentence(where, "Valve 0 is on if a valve is wanted", BoundaryTests::generalIfWanted);
        sentence(where, "one of the valves 1 to 4 was on at one of the last 10 ticks before this one",
                BoundaryTests::generalStaysTen);
        sentence(where, "valve 0 was on at each of the last two ticks before this one", BoundaryTests::generalForTwoTicks);
        sentence(where, "its opposite was off at the tick before this one", BoundaryTests::oppositeWasOff);
    }

    /** An object in which, of the valves 1 to 4, v alone is on and the gears may come to rest. */
    private static GearModules withValve(int v) {
        GearModules x = new GearModules();
        boolean downFirst = v == 1 || v == 4;
        x.handle(downFirst);
        x.tick(v == 1 ? UP_REST : downFirst ? EXTENDED : RETRACTED, 3);
        if (v > 2) {
            // Valve 2 was on, so valve 1 has to wait a tick, and the gears go without it.
            x.handle(!downFirst);
            x.tick(OPEN, 1);
        }
        due("valve " + v + " alone", x.valves(0), 1 | 1 << v);
        return x;
    }

    private static int restBehind(int v) {
        return v == 1 || v == 3 ? DOWN_REST : UP_REST;
    }

    private static void offForEver() {
        GearModules x = new GearModules();
        x.tick(OPEN, 1);
        due("new object, first tick", x.valves(0), 1);
        due("new object, first tick, none wanted", valvesAfter(false, UP_REST, 1), 0);
        x.tick(OPEN, 1);
        due("new object, second tick", x.valves(0), 1);
        x.tick(OPEN, 1);
        due("new object, third tick", x.valves(0), 19);
        x.replace(0);
        due("new module", x.valves(0), 0);
        x.tick(OPEN, 1);
        due("new module, first tick", x.valves(0), 1);
        x.tick(OPEN, 1);
        due("new module, second tick", x.valves(0), 1);
        x.tick(OPEN, 1);
        due("new module, third tick", x.valves(0), 19);
        for (int v = 1; v < 5; v++) {
            GearModules y = withValve(v);
            y.replace(0);
            y.tick(restBehind(v), 1);
            due("the old one's valve " + v + " holds nothing", y.valves(0), 0);
            due("that of one that stayed does", y.valves(1), 1);
        }
    }

    private static void generalIfWanted() {
        GearModules x = new GearModules();
        x.tick(UP_REST, 1);
        due("not wanted", x.valves(0), 0);
        x.tick(CLOSED, 1);
        due("wanted", x.valves(0), 1);
        x.tick(UP_REST, 1);
        due("wanted once, but none was on", x.valves(0), 0);
        x.tick(CLOSED, 2);
        due("wanted twice", x.valves(0), 1);
        x.tick(UP_REST, 1);
        due("wanted twice, but none was on", x.valves(0), 0);
        x.tick(RETRACTED, 1);
        due("valve 2 wanted", x.valves(0), 1);
    }

    private static void generalStaysTen() {
        for (int v = 1; v < 5; v++) {
            GearModules x = withValve(v);
            for (int i = 1; i <= 10; i++) {
                x.tick(restBehind(v), 1);
                due("valve " + v + ", tick " + i + " after", x.valves(0), 1);
            }
            x.tick(restBehind(v), 1);
            due("valve " + v + ", tick 11 after", x.valves(0), 0);
        }
        GearModules y = withValve(1);
        y.tick(DOWN_REST, 5);
        y.tick(UP_REST, 1);
        due("valve 1 once more", y.valves(0), 3);
        y.tick(DOWN_REST, 10);
        due("ten ticks from then", y.valves(0), 1);
        y.tick(DOWN_REST, 1);
        due("eleven ticks from then", y.valves(0), 0);
    }

    private static void generalForTwoTicks() {
        GearModules x = new GearModules();
        x.tick(CLOSED, 1);
        x.tick(UP_REST, 1);
        x.tick(CLOSED, 1);
        due("on, off", x.valves(0), 1);
        x.tick(CLOSED, 1);
        due("off, on", x.valves(0), 1);
        x.tick(UP_REST, 1);
        x.tick(CLOSED, 1);
        due("on, on, off", x.valves(0), 1);
        x.tick(CLOSED, 1);
        due("on, off, on", x.valves(0), 1);
        x.tick(CLOSED, 1);
        due("on, on", x.valves(0), 3);
        for (int rest = 9; rest <= 12; rest++) {
            GearModules y = withValve(1);
            y.tick(DOWN_REST, rest);
            y.tick(UP_REST, 1);
            due("wanted anew after a rest of " + rest, y.valves(0), rest <= 10 ? 3 : 1);
            y.tick(UP_REST, 1);
            due("a tick later, after " + rest, y.valves(0), rest <= 10 ? 3 : 1);
            y.tick(UP_REST, 1);
            due("two ticks later, after " + rest, y.valves(0), 3);
        }
    }

    private static void oppositeWasOff() {
        dueAfterOpposite(2, true, RETRACTED, 1, 3);
        dueAfterOpposite(1, true, EXTENDED, 1, 5);
        due("4 before 3", afterGears(false, true, 1), 3);
        due("3 a tick later", afterGears(false, true, 2), 11);
        due("3 before 4", afterGears(true, false, 1), 3);
        due("4 a tick later", afterGears(true, false, 2), 19);
        // A valve that is not the opposite one keeps nothing off.
        dueAfterOpposite(1, true, OPEN, 11, 11);
        dueAfterOpposite(1, false, OPEN, 19, 19);
        dueAfterOpposite(2, true, OPEN, 9, 11);
        dueAfterOpposite(3, true, EXTENDED, 5, 5);
        dueAfterOpposite(4, false, RETRACTED, 5, 5);
    }

    private static void dueAfterOpposite(int v, boolean down, int channels, int first, int second) {
        GearModules x = withValve(v);
        x.handle(down);
        x.tick(channels, 1);
        due("the tick behind valve " + v, x.valves(0), first);
        x.tick(channels, 1);
        due("two ticks behind valve " + v, x.valves(0), second);
    }

    private static int afterGears(boolean downFirst, boolean down, int n) {
        GearModules x = new GearModules();
        x.handle(downFirst);
        x.tick(OPEN, 4);
        x.handle(down);
        x.tick(OPEN, n);
        return x.valves(0);
    }

    // Watching

    private static void watching() {
        String where = "Terms, watching";
        sentence(where, "a new module has none, and one that it has stays", BoundaryTests::anomaliesStay);
        sentence(where, "It gets anomaly s (0 .. 5) when sensor s becomes broken.", BoundaryTests::anomalyOfSensor);
        for (Condition c : CONDITIONS) {
            String limit = ", " + c.k + ": " + c.limit;
            sentence(where + limit, "as many in a row as the limit", () -> limitIsReached(c));
            sentence(where + limit, "at this tick and at the ticks before it .. in a row", () -> gapBeginsAnew(c));
            sentence(where + limit, "all of them ticks of this module, since it was new", () -> ticksOfThisModule(c));
        }
        sentence(where, "valve .. on", BoundaryTests::conditionsNeedTheValve);
        sentence(where, "on and off of sensors are their values in the module", BoundaryTests::conditionsGoByValues);
    }

    private static void anomaliesStay() {
        GearModules x = new GearModules();
        due("new", x.anomalies(0), 0);
        x.tick(UP_REST | SWITCH, 30);
        x.tick(UP_REST, 100);
        due("stays when the condition has long ended", x.anomalies(0), 1 << 15);
        x.tick(UP_REST | 1, 1);
        x.tick(UP_REST | 2, 1);
        due("stays when another comes", x.anomalies(0), 1 << 15 | 1);
        x.replace(0);
        due("new in its place", x.anomalies(0), 0);
    }

    private static void anomalyOfSensor() {
        for (int s = 0; s < 6; s++) {
            GearModules x = new GearModules();
            x.tick(1 << 3 * s, 1);
            due("a channel is invalid, " + s, x.anomalies(1), 0);
            x.tick(2 << 3 * s, 1);
            due("broken, " + s, x.anomalies(1), 1 << s);
            due("record, " + s, x.entry(0), 2 * 32 + 16 + s);
            due("record of 0, " + s, x.entry(1), 2 * 32 + s);
            x.tick(4 << 3 * s, 1);
            due("one record each, " + s, x.entry(2), -1);
        }
    }

    private static void limitIsReached(Condition c) {
        GearModules x = c.start();
        due("before", x.running(0, c.k), 0);
        x.tick(c.channels, 1);
        due("at the tick of the valve or sensor itself", x.running(0, c.k), 1);
        x.tick(c.channels, c.limit - 2);
        for (int m = 0; m < 2; m++) {
            due("one less", x.running(m, c.k), c.limit - 1);
            due("one less, not got", c.isGot(x, m), false);
        }
        int last = x.tick(c.channels, 1);
        for (int m = 0; m < 2; m++) {
            due("the limit", x.running(m, c.k), c.limit);
            due("the limit, got", c.isGot(x, m), true);
        }
        due("record of 1", x.entry(0), last * 32L + 16 + c.k);
        due("record of 0", x.entry(1), last * 32L + c.k);
        x.tick(c.channels, 1);
        due("one more, no new record", x.entry(0), last * 32L + 16 + c.k);
    }

    private static void gapBeginsAnew(Condition c) {
        GearModules x = c.start();
        x.tick(c.channels, c.limit - 1);
        x.tick(c.without, 1);
        due("a tick without it", x.running(0, c.k), 0);
        // Behind valve 0 the other valves may need ticks of their own to be on again.
        int n = 0;
        while (x.running(0, c.k) == 0 && n++ < 5) {
            x.tick(c.channels, 1);
        }
        due("anew", x.running(0, c.k), 1);
        x.tick(c.channels, c.limit - 2);
        due("one less, anew", c.isGot(x, 0), false);
        x.tick(c.channels, 1);
        due("the limit, anew", c.isGot(x, 0), true);
    }

    private static void ticksOfThisModule(Condition c) {
        for (int m = 0; m < 2; m++) {
            for (int failed = 0; failed < 2; failed++) {
                GearModules x = c.start();
                x.tick(c.channels, c.limit - 1);
                if (failed == 1) {
                    x.fail(m);
                }
                x.replace(m);
                due("new", x.running(m, c.k), 0);
                ticks(x, c.channels, c.lead + 1);
                due("its first", x.running(m, c.k), 1);
                due("the other's limit", c.isGot(x, 1 - m), true);
                ticks(x, c.channels, c.limit - 2);
                due("one less of its own", c.isGot(x, m), false);
                x.tick(c.channels, 1);
                due("the limit of its own", c.isGot(x, m), true);
            }
        }
    }

    /** The sensor's half of each condition, while the valve's half is not there. */
    private static void conditionsNeedTheValve() {
        GearModules x = new GearModules();
        x.tick(RETRACTED, 10);
        due("valve 2 on, 1 off: 6", x.running(0, 6), 0);
        due("valve 3 off: 8", x.running(0, 8), 0);
        due("valve 3 off: 9", x.running(0, 9), 0);
        due("valve 4 off: 11", x.running(0, 11), 0);
        due("valve 2 on: 7", x.running(0, 7), 8);
        GearModules y = new GearModules();
        y.handle(true);
        y.tick(EXTENDED | RETRACTED | OPEN | PRESSURE, 10);
        due("valve 1 on, 2 off: 7", y.running(0, 7), 0);
        due("valve 3 on, 4 off: 10", y.running(0, 10), 0);
        due("valve 3 on: 8", y.running(0, 8), 8);
        due("valve 0 on: 13", y.running(0, 13), 0);
        y.handle(false);
        y.tick(EXTENDED | RETRACTED | OPEN | PRESSURE, 10);
        due("valve 4 on, 3 off: 8", y.running(0, 8), 0);
        due("valve 4 on: 10", y.running(0, 10), 9);
        GearModules z = new GearModules();
        z.tick(UP_REST, 10);
        due("valve 0 off: 12", z.running(0, 12), 0);
        z.handle(true);
        z.tick(OPEN, 10);
        due("valve 3 on, 4 off: 11", z.running(0, 11), 0);
        due("valve 3 on: 9", z.running(0, 9), 8);
    }

    private static void conditionsGoByValues() {
        GearModules x = new GearModules();
        x.tick(UP_REST | 6 << 15, 10);
        due("two of three channels on", x.running(0, 15), 10);
        x.tick(UP_REST | 1 << 15, 1);
        due("the invalid channel alone on", x.running(0, 15), 0);
        x.tick(UP_REST | 6 << 15, 5);
        x.tick(UP_REST | 2 << 15, 1);
        x.tick(UP_REST, 24);
        due("broken while on", x.running(0, 15), 30);
        due("broken while on, the limit", x.anomalies(0), 1 << 5 | 1 << 15);
    }

    // The wait for the switch

    private static void waitForSwitch() {
        String where = "Terms, anomaly 14";
        sentence(where, "when the handle has been moved", BoundaryTests::noWaitWithoutMove);
        sentence(where, "from the next tick on", BoundaryTests::waitFromTheNextTick);
        sentence(where, "anew at each move", BoundaryTests::waitAtEachMove);
        sentence(where, "the wait ends without more at a tick at which the value of sensor 5 is on",
                BoundaryTests::switchEndsWait);
        sentence(where, "at the tenth tick at which it is off, the module gets anomaly 14", BoundaryTests::tenthTick);
        sentence(where, "and the wait ends", BoundaryTests::tenthTickEndsWait);
        sentence(where, "A module that has failed .. does not wait for it", BoundaryTests::failedBeforeMove);
        sentence(where, "that was put in after the move, does not wait for it", BoundaryTests::putInAfterMove);
        sentence(where, "if a wait is under way, it begins again, at no ticks", BoundaryTests::waitBeginsAgain);
    }

    private static GearModules moved() {
        GearModules x = new GearModules();
        x.tick(UP_REST | PRESSURE, 1);
        x.handle(true);
        return x;
    }

    private static boolean missedSwitch(GearModules x, int m) {
        return (x.anomalies(m) >> 14 & 1) == 1;
    }

    private static void noWaitWithoutMove() {
        GearModules x = new GearModules();
        x.tick(UP_REST, 20);
        x.handle(false);
        x.tick(UP_REST, 20);
        due("not moved", x.running(0, 14), 0);
        due("not moved, no anomaly", missedSwitch(x, 0), false);
        x.handle(true);
        x.tick(UP_REST, 9);
        due("not moved in a wait", x.handle(true), false);
        due("the wait goes on", x.running(0, 14), 9);
        x.tick(UP_REST, 1);
        due("its tenth tick", missedSwitch(x, 0), true);
        x.handle(true);
        x.tick(UP_REST, 5);
        due("not moved behind a wait", x.running(0, 14), 0);
    }

    private static void waitFromTheNextTick() {
        GearModules x = new GearModules();
        x.tick(UP_REST | SWITCH, 1);
        x.handle(true);
        due("the switch of the tick before ends nothing", x.running(0, 14), 0);
        x.tick(UP_REST, 1);
        due("the next tick is its first", x.running(0, 14), 1);
        x.tick(UP_REST, 8);
        due("nine", missedSwitch(x, 0), false);
        x.tick(UP_REST, 1);
        due("ten", missedSwitch(x, 0), true);
    }

    private static void waitAtEachMove() {
        GearModules x = moved();
        x.tick(UP_REST | SWITCH, 1);
        x.handle(false);
        x.tick(UP_REST, 4);
        due("behind a wait that the switch ended", x.running(0, 14), 4);
        x.tick(UP_REST, 6);
        due("its tenth tick", missedSwitch(x, 0), true);
        x.handle(true);
        x.tick(UP_REST, 3);
        due("behind a wait that ran out", x.running(0, 14), 3);
        due("of each module", x.running(1, 14), 3);
    }

    private static void switchEndsWait() {
        for (int off = 0; off < 10; off++) {
            GearModules x = moved();
            ticks(x, UP_REST, off);
            due("off for " + off, x.running(0, 14), off);
            x.tick(UP_REST | SWITCH, 1);
            due("on after " + off, x.running(0, 14), 0);
            x.tick(UP_REST, 12);
            due("later, after " + off, x.running(0, 14), 0);
            due("no anomaly after " + off, missedSwitch(x, 0) || missedSwitch(x, 1), false);
        }
        GearModules y = moved();
        y.tick(UP_REST | 1 << 15, 3);
        due("a channel that is outvoted does not end it", y.running(0, 14), 3);
        y.tick(UP_REST | 6 << 15, 1);
        due("the two valid channels end it", y.running(0, 14), 0);
        y.tick(UP_REST | 2 << 15, 1);
        y.handle(false);
        y.tick(UP_REST, 10);
        due("so does a sensor that is broken while on", missedSwitch(y, 0), false);
    }

    private static void tenthTick() {
        GearModules x = moved();
        x.tick(UP_REST | PRESSURE, 9);
        for (int m = 0; m < 2; m++) {
            due("nine, " + m, x.running(m, 14), 9);
            due("nine, no anomaly, " + m, x.anomalies(m), 0);
        }
        x.tick(UP_REST | PRESSURE, 1);
        due("ten, 0", x.anomalies(0), 1 << 14);
        due("ten, 1", x.anomalies(1), 1 << 14);
        due("record of 0", x.entry(1), 11 * 32 + 14);
        due("record of 1", x.entry(0), 11 * 32 + 16 + 14);
    }

    private static void tenthTickEndsWait() {
        GearModules x = moved();
        x.tick(UP_REST, 10);
        due("at the tenth tick", x.running(0, 14), 0);
        x.tick(UP_REST, 1);
        due("at the eleventh", x.running(0, 14), 0);
    }

    private static void failedBeforeMove() {
        for (int m = 0; m < 2; m++) {
            GearModules x = new GearModules();
            x.fail(m);
            x.handle(true);
            x.tick(UP_REST, 5);
            due("failed", x.running(m, 14), 0);
            due("the other waits", x.running(1 - m, 14), 5);
            x.tick(UP_REST, 5);
            due("failed, no anomaly", x.anomalies(m), 0);
            due("one record", x.entry(1), -1);
            x.handle(false);
            x.replace(m);
            x.tick(UP_REST, 12);
            due("in its place", missedSwitch(x, m), false);
        }
    }

    private static void putInAfterMove() {
        for (int m = 0; m < 2; m++) {
            GearModules x = moved();
            x.replace(m);
            x.tick(UP_REST, 5);
            due("put in before a tick of the wait", x.running(m, 14), 0);
            due("the other waits", x.running(1 - m, 14), 5);
            x.replace(1 - m);
            x.tick(UP_REST, 10);
            due("put in, no anomaly", missedSwitch(x, m), false);
            due("put in during its wait, no anomaly", missedSwitch(x, 1 - m), false);
            x.handle(false);
            x.tick(UP_REST, 9);
            due("put in before the next move", x.running(m, 14), 9);
            x.tick(UP_REST, 1);
            due("waits for that one", missedSwitch(x, m), true);
        }
    }

    private static void waitBeginsAgain() {
        for (int n = 1; n < 10; n++) {
            GearModules x = moved();
            x.tick(UP_REST, n);
            x.handle(false);
            due("at no ticks after " + n, x.running(0, 14), 0);
            x.tick(UP_REST, 9);
            due("nine anew after " + n, x.running(0, 14), 9);
            due("no anomaly after " + n, missedSwitch(x, 0), false);
            x.tick(UP_REST, 1);
            due("ten anew after " + n, missedSwitch(x, 0), true);
        }
        GearModules y = moved();
        y.tick(UP_REST, 9);
        y.handle(false);
        y.handle(true);
        due("there and back is also a move", y.running(0, 14), 0);
        y.tick(UP_REST, 1);
        due("its first tick", y.running(0, 14), 1);
    }

    // Records

    private static void records() {
        String where = "Terms, records";
        sentence(where, "an anomaly that it did not have", BoundaryTests::onlyNewAnomalies);
        sentence(where, "at one tick those of module 0 come first", BoundaryTests::moduleZeroFirst);
        sentence(where, "and of one module the lesser anomaly", BoundaryTests::lesserAnomalyFirst);
        sentence(where, "The latest 16 records are kept.", BoundaryTests::latestSixteen);
        sentence(where, "A call that is refused changes nothing.", BoundaryTests::refusedChangesNothing);
    }

    private static void onlyNewAnomalies() {
        GearModules x = new GearModules();
        x.fail(1);
        x.tick(UP_REST | SWITCH, 31);
        due("the first time", x.entry(0), 30 * 32 + 15);
        due("not at the tick behind it", x.entry(1), -1);
        x.tick(UP_REST, 1);
        x.tick(UP_REST | SWITCH, 40);
        due("not the second time", x.entry(1), -1);
        x.replace(0);
        x.tick(UP_REST | SWITCH, 30);
        due("a new module did not have it", x.entry(0), 102 * 32 + 15);
        due("the old one's is kept", x.entry(1), 30 * 32 + 15);
        GearModules y = moved();
        y.tick(UP_REST | PRESSURE, 10);
        y.handle(false);
        y.tick(UP_REST | PRESSURE, 10);
        due("a second wait that runs out", y.entry(0), 11 * 32 + 16 + 14);
        due("writes nothing", y.entry(2), -1);
    }

    private static void moduleZeroFirst() {
        GearModules x = new GearModules();
        x.tick(ALL_FIRST, 1);
        x.tick(ALL_SECOND, 1);
        for (int k = 0; k < 12; k++) {
            due("k = " + k, x.entry(k), 2 * 32 + (k < 6 ? 16 + 5 - k : 11 - k));
        }
        // Module 1 comes later even with a lesser anomaly.
        GearModules y = new GearModules();
        y.fail(0);
        y.tick(UP_REST | 1, 1);
        y.replace(0);
        y.tick(UP_REST | SWITCH, 29);
        y.tick(UP_REST | SWITCH | 2, 1);
        due("15 of module 1", y.entry(0), 31 * 32 + 16 + 15);
        due("0 of module 1", y.entry(1), 31 * 32 + 16);
        due("15 of module 0 before them", y.entry(2), 31 * 32 + 15);
        due("no more", y.entry(3), -1);
    }

    private static void lesserAnomalyFirst() {
        GearModules x = new GearModules();
        x.fail(1);
        x.tick(UP_REST | 1, 1);
        x.tick(CLOSED | 1, 10);
        x.handle(true);
        x.tick(CLOSED | 1, 9);
        due("none yet", x.entry(0), -1);
        x.tick(CLOSED | 2, 1);
        int[] order = {14, 12, 0};
        for (int k = 0; k < 3; k++) {
            due("k = " + k, x.entry(k), 21 * 32 + order[k]);
        }
        due("no more", x.entry(3), -1);
    }

    private static void latestSixteen() {
        GearModules x = new GearModules();
        x.fail(1);
        // Each round writes the six records 0 .. 5 of module 0 at tick 2 * round.
        for (int round = 1; round <= 12; round++) {
            x.replace(0);
            x.tick(ALL_FIRST, 1);
            x.tick(ALL_SECOND, 1);
            int written = 6 * round;
            for (int k = 0; k < 16; k++) {
                int number = written - 1 - k;
                long want = number < 0 ? -1 : (number / 6 + 1) * 2L * 32 + number % 6;
                due("round " + round + ", k = " + k, x.entry(k), want);
            }
            due("round " + round + ", k = 16", x.entry(16), -1);
        }
    }

    private static void refusedChangesNothing() {
        int[] noNumbers = {0, -1, 101, Integer.MIN_VALUE, Integer.MAX_VALUE};
        for (int n : noNumbers) {
            dueUnchanged("tick, n = " + n, x -> x.tick(EXTENDED | SWITCH | PRESSURE, n));
        }
        for (int m : NO_MODULES) {
            dueUnchanged("fail " + m, x -> x.fail(m));
            dueUnchanged("replace " + m, x -> x.replace(m));
            dueUnchanged("answers of " + m, x -> {
                x.works(m);
                x.sensor(m, 0);
                x.anomalies(m);
                x.running(m, 6);
                x.word(0, m);
            });
        }
        dueUnchanged("fail of one that has failed", x -> x.fail(1));
        dueUnchanged("the handle where it is", x -> x.handle(true));
        dueUnchanged("answers", x -> {
            x.valves(2);
            x.sensor(0, 6);
            x.running(0, 5);
            x.entry(16);
            x.word(256, 0);
            x.label(0);
        });
    }

    private static void dueUnchanged(String what, Consumer<GearModules> call) {
        GearModules x = inTheMiddle();
        GearModules y = inTheMiddle();
        call.accept(x);
        due(what, stateOf(x), stateOf(y));
        x.tick(OPEN | 2, 1);
        y.tick(OPEN | 2, 1);
        due(what + ", a tick later", stateOf(x), stateOf(y));
        x.tick(DOWN_REST, 11);
        y.tick(DOWN_REST, 11);
        due(what + ", later", stateOf(x), stateOf(y));
    }

    /** Module 1 has failed, module 0 waits, has valves on, an invalid channel, counts and records. */
    private static GearModules inTheMiddle() {
        GearModules x = new GearModules();
        x.tick(UP_REST | SWITCH | 1, 40);
        x.handle(true);
        x.tick(OPEN | 1, 5);
        x.fail(1);
        return x;
    }

    // Promises 1 to 7

    private static void changingCalls() {
        sentence("Promise 1", "Both modules are new and work; no tick has been.", BoundaryTests::newObject);
        sentence("Promise 2", "Answers whether it was moved.", BoundaryTests::wasMoved);
        sentence("Promise 3", "channel c of sensor s is on if bit 3 * s + c of channels is 1", BoundaryTests::bitsOfChannels);
        sentence("Promise 3", "other bits have no meaning", BoundaryTests::otherBits);
        sentence("Promise 3", "NONE (refused) if n is not 1 .. 100", BoundaryTests::numberOfTicks);
        sentence("Promise 3", "Makes n ticks, at all of which", BoundaryTests::manyTicksAreSingleOnes);
        sentence("Promise 4", "refused with false if m is not 0 or 1", () -> {
            for (int m : NO_MODULES) {
                due("m = " + m, new GearModules().fail(m), false);
            }
        });
        sentence("Promise 4", "or it has failed", BoundaryTests::failsOnce);
        sentence("Promise 5", "A new module, which works, takes the place of m", BoundaryTests::replacesFailed);
        sentence("Promise 5", "also of one that works", BoundaryTests::replacesWorking);
        sentence("Promise 5", "refused with false if m is not 0 or 1", () -> {
            for (int m : NO_MODULES) {
                due("m = " + m, new GearModules().replace(m), false);
            }
        });
        sentence("Promise 6", "Whether module m works", BoundaryTests::whetherWorks);
        sentence("Promise 6", "false if there is none", () -> {
            for (int m : NO_MODULES) {
                due("m = " + m, new GearModules().works(m), false);
            }
        });
        sentence("Promise 7", "The number of the latest tick; 0 if there was none.", BoundaryTests::latestTick);
    }

    private static void newObject() {
        String module = "true valves 0 sensors 28 28 28 28 28 28 anomalies 0 running 0 0 0 0 0 0 0 0 0 0 word ";
        GearModules x = new GearModules();
        due("0", stateOf(x, 0), module + oddWord(1 << 8 | 3 << 29));
        due("1", stateOf(x, 1), module + oddWord(2 << 8 | 3 << 29));
        due("time", x.time(), 0);
        due("valves", x.valves(-1), 0);
        due("lights", x.lights(), 0);
        due("records", x.entry(0), -1);
    }

    private static void wasMoved() {
        GearModules x = new GearModules();
        due("up at first, up", x.handle(false), false);
        due("up, down", x.handle(true), true);
        due("down, down", x.handle(true), false);
        due("down, up", x.handle(false), true);
        due("up, up", x.handle(false), false);
        x.fail(0);
        x.fail(1);
        due("moved without a working module", x.handle(true), true);
        x.replace(0);
        due("where it was left", x.handle(true), false);
    }

    private static void bitsOfChannels() {
        for (int s = 0; s < 6; s++) {
            for (int c = 0; c < 3; c++) {
                GearModules x = new GearModules();
                x.tick(1 << 3 * s + c, 1);
                for (int other = 0; other < 6; other++) {
                    due("bit " + (3 * s + c) + ", sensor " + other, x.sensor(0, other), other == s ? 28 - (4 << c) : 28);
                }
            }
        }
    }

    private static void otherBits() {
        int[] channels = {0, UP_REST, DOWN_REST, OPEN | SWITCH, ALL_FIRST, ALL_SECOND};
        for (int bit = 18; bit <= 32; bit++) {
            int more = bit < 32 ? 1 << bit : -1 << 18;
            GearModules x = new GearModules();
            GearModules y = new GearModules();
            for (int c : channels) {
                x.tick(c | more, 3);
                y.tick(c, 3);
            }
            due("bit " + bit, stateOf(x), stateOf(y));
        }
    }

    private static void numberOfTicks() {
        GearModules x = new GearModules();
        due("0", x.tick(0, 0), -1);
        due("1", x.tick(0, 1), 1);
        due("100", x.tick(0, 100), 101);
        due("101", x.tick(0, 101), -1);
        due("-1", x.tick(0, -1), -1);
        due("least", x.tick(0, Integer.MIN_VALUE), -1);
        due("greatest", x.tick(0, Integer.MAX_VALUE), -1);
        due("99", x.tick(0, 99), 200);
    }

    private static void manyTicksAreSingleOnes() {
        GearModules x = new GearModules();
        GearModules y = new GearModules();
        x.handle(true);
        y.handle(true);
        due("a hundred", x.tick(OPEN | SWITCH | 1, 100), 100);
        for (int i = 1; i <= 100; i++) {
            due("single", y.tick(OPEN | SWITCH | 1, 1), i);
        }
        due("a hundred or single", stateOf(x), stateOf(y));
    }

    private static void failsOnce() {
        for (int m = 0; m < 2; m++) {
            GearModules x = new GearModules();
            due("works", x.fail(m), true);
            due("has failed", x.fail(m), false);
            x.tick(0, 5);
            due("has failed, later", x.fail(m), false);
            due("the other works", x.fail(1 - m), true);
            x.replace(m);
            due("a new one works", x.fail(m), true);
        }
    }

    private static void replacesFailed() {
        for (int m = 0; m < 2; m++) {
            GearModules x = inTheMiddle();
            x.fail(m);
            String other = stateOf(x, 1 - m);
            due("answer", x.replace(m), true);
            due("new", stateOf(x, m), stateOf(new GearModules(), m));
            due("the other is as it was", stateOf(x, 1 - m), other);
            due("the records stay", x.entry(0), 30 * 32 + 16 + 15);
            due("the time stays", x.time(), 45);
            due("the handle stays", x.handle(true), false);
            dueLikeNewFrom(x, m);
        }
    }

    private static void replacesWorking() {
        for (int m = 0; m < 2; m++) {
            GearModules x = new GearModules();
            x.handle(true);
            x.tick(OPEN | 1, 40);
            x.tick(OPEN | 2, 1);
            due("answer", x.replace(m), true);
            due("new", stateOf(x, m), stateOf(new GearModules(), m));
            due("again", x.replace(m), true);
            dueLikeNewFrom(x, m);
        }
    }

    /** The module m of x, handle down, does from now on what one of a new object does. */
    private static void dueLikeNewFrom(GearModules x, int m) {
        GearModules y = new GearModules();
        y.handle(true);
        y.replace(m);
        int[] channels = {DOWN_REST, OPEN | 1, DOWN_REST, OPEN | 2, UP_REST | PRESSURE};
        for (int c : channels) {
            x.tick(c, 3);
            y.tick(c, 3);
            due("like a new one", stateOf(x, m), stateOf(y, m));
        }
    }

    private static void whetherWorks() {
        for (int m = 0; m < 2; m++) {
            GearModules x = new GearModules();
            due("new", x.works(m), true);
            x.fail(m);
            due("failed", x.works(m), false);
            due("the other", x.works(1 - m), true);
            x.replace(m);
            due("replaced", x.works(m), true);
        }
    }

    private static void latestTick() {
        GearModules x = new GearModules();
        due("none", x.time(), 0);
        x.tick(0, 0);
        x.tick(0, 101);
        due("refused ones", x.time(), 0);
        x.tick(0, 1);
        due("one", x.time(), 1);
        x.tick(0, 100);
        due("a hundred more", x.time(), 101);
        x.replace(0);
        x.replace(1);
        due("of new modules", x.time(), 101);
    }

    // Promises 8 to 13

    private static void answeringCalls() {
        sentence("Promise 8", "in either module, if m is -1", BoundaryTests::valvesOfEither);
        sentence("Promise 8", "NONE if m is neither -1 nor 0 nor 1", BoundaryTests::valvesOfNone);
        sentence("Promise 9", "1 if its value is on, plus 2 if it is broken, plus 4, 8 and 16", BoundaryTests::sensorsOfModule);
        sentence("Promise 9", "NONE if there is no such module or sensor", BoundaryTests::noSuchSensor);
        sentence("Promise 10", "the sum of 2 to the power of their numbers", BoundaryTests::sumOfAnomalies);
        sentence("Promise 10", "NONE if there is no such module", () -> {
            for (int m : NO_MODULES) {
                due("m = " + m, new GearModules().anomalies(m), -1);
            }
        });
        sentence("Promise 11", "but no more than its limit", BoundaryTests::noMoreThanLimit);
        sentence("Promise 11", "for 14 how many ticks of its wait have been, 0 if it does not wait", BoundaryTests::ticksOfWait);
        sentence("Promise 11", "In a failed module: as it was at its last tick", BoundaryTests::runningAtLastTick);
        sentence("Promise 11", "0 if it had none", BoundaryTests::runningWithoutTick);
        sentence("Promise 11", "for 14 it is 0", BoundaryTests::waitOfFailed);
        sentence("Promise 11", "NONE if there is no such module, or k is not 6 .. 15", BoundaryTests::noSuchRunning);
        sentence("Promise 12", "1 if in a working module extended is on and retracted off", BoundaryTests::lightOfGears);
        sentence("Promise 12", "plus 2 if one of the valves 1 to 4 is on in either module", BoundaryTests::lightOfValves);
        sentence("Promise 12", "plus 4 if either module has an anomaly", BoundaryTests::lightOfAnomalies);
        sentence("Promise 13", "the k-th from the latest (0): tick * 32 + module * 16 + anomaly", BoundaryTests::numberOfRecord);
        sentence("Promise 13", "NONE if k is not 0 .. 15 or there are not so many", BoundaryTests::noSuchRecord);
    }

    private static void valvesOfEither() {
        GearModules x = new GearModules();
        due("none", x.valves(-1), 0);
        x.tick(UP_REST | 1, 1);
        x.replace(1);
        x.tick(UP_REST | 2, 1);
        x.tick(EXTENDED, 4);
        due("0 opens", x.valves(0), 3);
        x.tick(EXTENDED | RETRACTED, 2);
        due("0 closes", x.valves(0), 5);
        due("1 opens", x.valves(1), 3);
        due("in either", x.valves(-1), 7);
        x.fail(1);
        due("in 0 alone", x.valves(-1), 5);
        x.fail(0);
        due("in neither", x.valves(-1), 0);
    }

    private static void valvesOfNone() {
        GearModules x = new GearModules();
        x.tick(OPEN, 3);
        int[] none = {-2, 2, 3, Integer.MIN_VALUE, Integer.MAX_VALUE};
        for (int m : none) {
            due("m = " + m, x.valves(m), -1);
        }
        due("m = 0", x.valves(0), 19);
        due("m = 1", x.valves(1), 19);
    }

    private static void sensorsOfModule() {
        GearModules x = new GearModules();
        x.tick(0b101_111_000_001_010_100, 1);
        int[] first = {12, 20, 24, 28, 29, 21};
        for (int s = 0; s < 6; s++) {
            due("sensor " + s, x.sensor(0, s), first[s]);
        }
        x.tick(0b001_000_000_010_001_010, 1);
        int[] second = {14, 22, 26, 28, 28, 23};
        for (int s = 0; s < 6; s++) {
            due("sensor " + s + ", then", x.sensor(1, s), second[s]);
        }
    }

    private static void noSuchSensor() {
        GearModules x = new GearModules();
        int[] none = {-1, 6, 7, Integer.MIN_VALUE, Integer.MAX_VALUE};
        for (int s : none) {
            due("s = " + s, x.sensor(0, s), -1);
        }
        for (int m : NO_MODULES) {
            due("m = " + m, x.sensor(m, 0), -1);
            due("m and s = " + m, x.sensor(m, m), -1);
        }
        due("the first", x.sensor(0, 0), 28);
        due("the last", x.sensor(1, 5), 28);
    }

    private static void sumOfAnomalies() {
        GearModules x = new GearModules();
        x.tick(ALL_FIRST, 1);
        x.tick(ALL_SECOND, 1);
        due("0 .. 5", x.anomalies(0), 63);
        GearModules y = new GearModules();
        y.tick(UP_REST | PRESSURE | SWITCH, 100);
        due("13 and 15", y.anomalies(0), 1 << 13 | 1 << 15);
        y.replace(0);
        due("of a new one", y.anomalies(0), 0);
        due("of the other", y.anomalies(1), 1 << 13 | 1 << 15);
    }

    private static void noMoreThanLimit() {
        for (Condition c : CONDITIONS) {
            GearModules x = c.start();
            x.tick(c.channels, c.limit);
            for (int more = 1; more <= 3; more++) {
                x.tick(c.channels, 1);
                due(c.k + ", " + more + " more", x.running(0, c.k), c.limit);
            }
            x.tick(c.channels, 100);
            due(c.k + ", many more", x.running(1, c.k), c.limit);
            x.tick(c.without, 1);
            due(c.k + ", ended", x.running(1, c.k), 0);
        }
    }

    private static void ticksOfWait() {
        GearModules x = new GearModules();
        due("no move", x.running(0, 14), 0);
        x.handle(true);
        due("no tick yet", x.running(0, 14), 0);
        for (int i = 1; i < 10; i++) {
            x.tick(UP_REST, 1);
            due("tick " + i, x.running(0, 14), i);
        }
        x.tick(UP_REST, 1);
        due("it has run out", x.running(0, 14), 0);
        x.handle(false);
        x.tick(UP_REST, 3);
        due("another", x.running(1, 14), 3);
        x.tick(UP_REST | SWITCH, 1);
        due("the switch", x.running(1, 14), 0);
    }

    private static void runningAtLastTick() {
        for (Condition c : CONDITIONS) {
            GearModules x = c.start();
            x.tick(c.channels, 7);
            x.fail(0);
            due(c.k + ", at once", x.running(0, c.k), 7);
            x.tick(c.channels, 1);
            due(c.k + ", not on", x.running(0, c.k), 7);
            x.tick(c.without, 1);
            due(c.k + ", not ended", x.running(0, c.k), 7);
            due(c.k + ", ended in the other", x.running(1, c.k), 0);
        }
    }

    private static void runningWithoutTick() {
        for (Condition c : CONDITIONS) {
            GearModules x = c.start();
            x.tick(c.channels, 7);
            x.replace(0);
            x.fail(0);
            due(c.k + ", failed before its first tick", x.running(0, c.k), 0);
            x.tick(c.channels, 5);
            due(c.k + ", later", x.running(0, c.k), 0);
        }
    }

    private static void waitOfFailed() {
        GearModules x = moved();
        x.tick(UP_REST, 4);
        x.fail(1);
        due("at once", x.running(1, 14), 0);
        x.tick(UP_REST, 2);
        due("later", x.running(1, 14), 0);
        due("the other's", x.running(0, 14), 6);
        x.handle(false);
        x.tick(UP_REST, 2);
        due("at the next move", x.running(1, 14), 0);
    }

    private static void noSuchRunning() {
        GearModules x = new GearModules();
        x.tick(UP_REST | PRESSURE | SWITCH, 3);
        int[] none = {-1, 0, 5, 16, 17, Integer.MIN_VALUE, Integer.MAX_VALUE};
        for (int k : none) {
            due("k = " + k, x.running(0, k), -1);
        }
        for (int m : NO_MODULES) {
            for (int k = 6; k < 16; k++) {
                due("m = " + m + ", k = " + k, x.running(m, k), -1);
            }
        }
        due("the first", x.running(0, 6), 0);
        due("the last", x.running(1, 15), 3);
    }

    private static void lightOfGears() {
        int[] gears = {0, EXTENDED, RETRACTED, EXTENDED | RETRACTED};
        for (int down = 0; down < 2; down++) {
            for (int g : gears) {
                GearModules x = new GearModules();
                x.handle(down == 1);
                x.tick(g, 1);
                due("gears " + g, x.lights(), g == EXTENDED ? 1 : 0);
            }
        }
        GearModules y = new GearModules();
        y.tick(EXTENDED, 1);
        y.fail(0);
        due("one that works", y.lights(), 1);
        y.fail(1);
        due("extended in failed ones alone", y.lights(), 0);
        y.replace(0);
        due("a new one knows nothing yet", y.lights(), 0);
        y.tick(EXTENDED, 1);
        due("in 0 alone", y.lights(), 1);
        GearModules z = new GearModules();
        z.tick(EXTENDED, 1);
        z.replace(0);
        due("in 1 alone", z.lights(), 1);
        // Extended in one module and not retracted in the other are not enough.
        GearModules w = new GearModules();
        w.tick(RETRACTED | 1, 1);
        w.replace(1);
        w.tick(RETRACTED | 2, 1);
        w.tick(EXTENDED | RETRACTED, 1);
        due("not extended in 0, both in 1", w.lights() & 1, 0);
    }

    private static void lightOfValves() {
        for (int v = 1; v < 5; v++) {
            for (int m = 0; m < 2; m++) {
                GearModules x = withValve(v);
                due("valve " + v + " in both", x.lights() & 2, 2);
                x.fail(m);
                due("valve " + v + " in one", x.lights() & 2, 2);
                x.fail(1 - m);
                due("valve " + v + " in none", x.lights() & 2, 0);
            }
            GearModules y = withValve(v);
            y.tick(restBehind(v), 1);
            due("valve 0 alone", y.lights() & 2, 0);
        }
    }

    private static void lightOfAnomalies() {
        for (int m = 0; m < 2; m++) {
            GearModules x = new GearModules();
            x.fail(1 - m);
            x.tick(UP_REST | SWITCH, 29);
            due("one tick before", x.lights(), 0);
            x.tick(UP_REST | SWITCH, 1);
            due("15 in " + m, x.lights(), 4);
            x.fail(m);
            due("in a failed one", x.lights(), 4);
            x.replace(m);
            due("a new one has none", x.lights(), 0);
            x.tick(UP_REST | 1, 1);
            x.tick(UP_REST | 2, 1);
            due("0 in " + m, x.lights(), 4);
        }
    }

    private static void numberOfRecord() {
        GearModules x = new GearModules();
        x.tick(UP_REST | 1, 99);
        x.tick(UP_REST | 2, 1);
        due("the latest", x.entry(0), 100 * 32 + 16);
        due("the one before", x.entry(1), 100 * 32);
        x.tick(UP_REST | SWITCH, 30);
        due("15 of 1", x.entry(0), 130 * 32 + 16 + 15);
        due("15 of 0", x.entry(1), 130 * 32 + 15);
        due("now the third", x.entry(2), 100 * 32 + 16);
        due("now the fourth", x.entry(3), 100 * 32);
    }

    private static void noSuchRecord() {
        int[] none = {-1, 16, 17, Integer.MIN_VALUE, Integer.MAX_VALUE};
        GearModules x = new GearModules();
        for (int k = 0; k < 16; k++) {
            due("empty, k = " + k, x.entry(k), -1);
        }
        x.fail(1);
        // Each round writes one record more.
        for (int written = 1; written <= 18; written++) {
            x.replace(0);
            x.tick(1, 1);
            x.tick(2, 1);
            for (int k = 0; k < 16; k++) {
                due(written + " written, k = " + k, x.entry(k) == -1, k >= written);
            }
        }
        for (int k : none) {
            due("full, k = " + k, x.entry(k), -1);
        }
    }

    // Promises 14 and 15

    private static void words() {
        sentence("Promise 14", "bits 0 .. 7 the label; bits 8 and 9 m + 1", BoundaryTests::wordOfLabel);
        sentence("Promise 14", "bits 10 .. 14 its valves", BoundaryTests::wordOfValves);
        sentence("Promise 14", "bits 15 .. 20 the values of its sensors; bits 21 .. 26 whether they are broken",
                BoundaryTests::wordOfSensors);
        sentence("Promise 14", "bits 27 and 28 are 0", BoundaryTests::wordWithEmptyBits);
        sentence("Promise 14", "0 if it has failed, else 1 if it has an anomaly, else 3", BoundaryTests::wordOfStatus);
        sentence("Promise 14", "bit 31 is such that the number of bits that are 1 is odd", BoundaryTests::wordIsOdd);
        sentence("Promise 14", "0 if there is no such module or label is not 0 .. 255", BoundaryTests::noSuchWord);
        sentence("Promise 15", "bit 0 counts 128, bit 1 64, .., bit 7 1", BoundaryTests::labelIsReversed);
        sentence("Promise 15", "if the number of its 32 bits that are 1 is odd", BoundaryTests::labelOfOdd);
        sentence("Promise 15", "NONE if that number is even", BoundaryTests::noLabelOfEven);
    }

    private static int oddWord(int bits) {
        return Integer.bitCount(bits) % 2 == 1 ? bits : bits | Integer.MIN_VALUE;
    }

    private static void wordOfLabel() {
        int[] labels = {0, 1, 2, 127, 128, 170, 254, 255};
        GearModules x = new GearModules();
        for (int label : labels) {
            due("label " + label + " of 0", x.word(label, 0) & 1023, label | 1 << 8);
            due("label " + label + " of 1", x.word(label, 1) & 1023, label | 2 << 8);
        }
    }

    private static void wordOfValves() {
        for (int v = 1; v < 5; v++) {
            GearModules x = withValve(v);
            x.replace(1);
            due("valve " + v, x.word(255, 0) >> 10 & 31, 1 | 1 << v);
            due("of a new one", x.word(255, 1) >> 10 & 31, 0);
        }
        GearModules y = new GearModules();
        y.tick(0, 1);
        due("valve 0 alone", y.word(255, 1) >> 10 & 31, 1);
    }

    private static void wordOfSensors() {
        for (int s = 0; s < 6; s++) {
            GearModules x = new GearModules();
            x.tick(6 << 3 * s, 1);
            x.replace(1);
            due("value of " + s, x.word(0, 0) >> 15 & 63, 1 << s);
            due("none of a new one", x.word(0, 1) >> 15 & 63, 0);
            due("not broken, " + s, x.word(0, 0) >> 21 & 63, 0);
            x.tick(2 << 3 * s, 1);
            due("value of broken " + s, x.word(0, 0) >> 15 & 63, 1 << s);
            due("broken " + s, x.word(0, 0) >> 21 & 63, 1 << s);
            due("not in the other", x.word(0, 1) >> 21 & 63, 0);
        }
    }

    private static void wordWithEmptyBits() {
        GearModules x = new GearModules();
        x.tick(0b110_110_110_110_110_110, 1);
        due("all values", x.word(255, 1) >> 15 & 63, 63);
        due("all values, bits 27 and 28", x.word(255, 1) >> 27 & 3, 0);
        x.tick(ALL_SECOND, 3);
        due("all broken", x.word(255, 1) >> 15 & 4095, 4095);
        due("all broken, bits 27 and 28", x.word(255, 1) >> 27 & 3, 0);
        x.fail(1);
        due("failed, bits 27 and 28", x.word(255, 1) >> 27 & 3, 0);
    }

    private static void wordOfStatus() {
        GearModules x = new GearModules();
        due("works", x.word(0, 0) >> 29 & 3, 3);
        x.tick(UP_REST | SWITCH, 29);
        due("no anomaly yet", x.word(0, 0) >> 29 & 3, 3);
        x.tick(UP_REST | SWITCH, 1);
        due("an anomaly", x.word(0, 0) >> 29 & 3, 1);
        x.fail(0);
        due("failed with an anomaly", x.word(0, 0) >> 29 & 3, 0);
        due("the other's anomaly", x.word(0, 1) >> 29 & 3, 1);
        x.replace(0);
        due("new", x.word(0, 0) >> 29 & 3, 3);
        x.fail(0);
        due("failed without an anomaly", x.word(0, 0) >> 29 & 3, 0);
    }

    private static void wordIsOdd() {
        GearModules x = new GearModules();
        for (int label = 0; label < 256; label++) {
            int word = x.word(label, label & 1);
            due("label " + label, Integer.bitCount(word) & 1, 1);
            // The other bits that are 1 are one of bits 8 and 9, and bits 29 and 30.
            due("label " + label + ", bit 31", word >>> 31, Integer.bitCount(label) & 1);
        }
    }

    private static void noSuchWord() {
        GearModules x = new GearModules();
        int[] none = {-1, 256, 257, Integer.MIN_VALUE, Integer.MAX_VALUE};
        for (int label : none) {
            due("label " + label, x.word(label, 0), 0);
            due("label " + label + " of 1", x.word(label, 1), 0);
        }
        for (int m : NO_MODULES) {
            due("m = " + m, x.word(0, m), 0);
            due("label and m = " + m, x.word(m, m), 0);
        }
        due("label 0 is one", x.word(0, 0) != 0, true);
        due("label 255 is one", x.word(255, 1) != 0, true);
    }

    private static void labelIsReversed() {
        GearModules x = new GearModules();
        for (int bit = 0; bit < 8; bit++) {
            due("bit " + bit, x.label(1 << bit), 128 >> bit);
            due("all but bit " + bit, x.label(~(1 << bit)), 255 - (128 >> bit));
        }
        GearModules y = new GearModules();
        for (int label = 0; label < 256; label++) {
            due("label " + label, y.label(y.word(label, 1)), Integer.reverse(label) >>> 24);
        }
    }

    private static void labelOfOdd() {
        GearModules x = new GearModules();
        for (int bit = 8; bit < 32; bit++) {
            due("bit " + bit, x.label(1 << bit), 0);
            due("bits 0, 1 and " + bit, x.label(3 | 1 << bit), 192);
            due("all but bit " + bit, x.label(~(1 << bit)), 255);
        }
    }

    private static void noLabelOfEven() {
        GearModules x = new GearModules();
        due("no bit", x.label(0), -1);
        due("all bits", x.label(-1), -1);
        for (int bit = 1; bit < 32; bit++) {
            due("bits 0 and " + bit, x.label(1 | 1 << bit), -1);
            due("all but bits 0 and " + bit, x.label(~(1 | 1 << bit)), -1);
        }
        due("a word with one bit wrong", x.label(x.word(142, 0) ^ 1 << 31), -1);
    }
}
