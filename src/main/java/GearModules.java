/**
 * Moves the gears and doors of a landing gear by five valves. Two equal modules vote on threefold
 * sensors, say which valves are wanted, keep the gaps between them, and watch for time-outs.
 */
public final class GearModules {
    public static final int NONE = -1;

    private static final int MODULES = 2;
    private static final int EITHER_MODULE = -1;
    private static final int MOST_TICKS = 100;
    private static final int RECORDS = 16;
    private static final int LABELS = 256;
    private static final int LABEL_BITS = 8;

    private static final int SENSORS = 6;
    private static final int EXTENDED = 0;
    private static final int RETRACTED = 1;
    private static final int DOORS_OPEN = 2;
    private static final int DOORS_CLOSED = 3;
    private static final int PRESSURE = 4;
    private static final int SWITCH = 5;

    private static final int CHANNELS = 3;
    private static final int ALL_CHANNELS = 7;

    // Valves are held as sums of these, the form in which the face answers them.
    private static final int GENERAL = 1;
    private static final int OPEN_DOORS = 2;
    private static final int CLOSE_DOORS = 4;
    private static final int EXTEND_GEARS = 8;
    private static final int RETRACT_GEARS = 16;
    private static final int MOVING = 30;

    private static final int GENERAL_STAYS = 10;

    private static final int ANOMALIES = 16;
    private static final int FIRST_TIMED = 6;
    private static final int SWITCH_WAIT = 14;
    private static final int[] LIMITS = {0, 0, 0, 0, 0, 0, 70, 70, 70, 100, 70, 100, 20, 100, 10, 30};

    private final OneModule[] modules = new OneModule[MODULES];
    private final long[] records = new long[RECORDS];
    private int kept;
    private int newest;
    private int ticks;
    private boolean handleDown;

    public GearModules() {
        for (int m = 0; m < MODULES; m++) {
            modules[m] = new OneModule();
        }
    }

    public boolean handle(boolean down) {
        if (down == handleDown) {
            return false;
        }
        handleDown = down;
        for (int m = 0; m < MODULES; m++) {
            modules[m].beginWait();
        }
        return true;
    }

    public int tick(int channels, int n) {
        if (n < 1 || n > MOST_TICKS) {
            return NONE;
        }
        for (int i = 0; i < n; i++) {
            ticks++;
            for (int m = 0; m < MODULES; m++) {
                write(m, modules[m].step(channels, handleDown));
            }
        }
        return ticks;
    }

    public boolean fail(int m) {
        return isModule(m) && modules[m].stop();
    }

    public boolean replace(int m) {
        if (!isModule(m)) {
            return false;
        }
        modules[m].renew();
        return true;
    }

    public boolean works(int m) {
        return isModule(m) && modules[m].working;
    }

    public int time() {
        return ticks;
    }

    public int valves(int m) {
        if (m == EITHER_MODULE) {
            return valvesOfEither();
        }
        return isModule(m) ? modules[m].valvesOn : NONE;
    }

    public int sensor(int m, int s) {
        if (!isModule(m) || s < 0 || s >= SENSORS) {
            return NONE;
        }
        return modules[m].sensors[s].summary();
    }

    public int anomalies(int m) {
        return isModule(m) ? modules[m].found : NONE;
    }

    public int running(int m, int k) {
        if (!isModule(m) || k < FIRST_TIMED || k >= ANOMALIES) {
            return NONE;
        }
        return modules[m].counts[k];
    }

    public int lights() {
        int lit = 0;
        for (int m = 0; m < MODULES; m++) {
            OneModule module = modules[m];
            if (module.working && module.gearsAreExtended()) {
                lit |= 1;
            }
            if ((module.valvesOn & MOVING) != 0) {
                lit |= 2;
            }
            if (module.found != 0) {
                lit |= 4;
            }
        }
        return lit;
    }

    public long entry(int k) {
        if (k < 0 || k >= kept) {
            return NONE;
        }
        return records[(newest - k + RECORDS) % RECORDS];
    }

    public int word(int label, int m) {
        if (!isModule(m) || label < 0 || label >= LABELS) {
            return 0;
        }
        OneModule module = modules[m];
        int bits = label
                | (m + 1) << 8
                | module.valvesOn << 10
                | module.sensorsOn() << 15
                | module.sensorsBroken() << 21
                | module.status() << 29;
        return hasOddParity(bits) ? bits : bits | 1 << 31;
    }

    public int label(int word) {
        if (!hasOddParity(word)) {
            return NONE;
        }
        int reversed = 0;
        for (int bit = 0; bit < LABEL_BITS; bit++) {
            reversed = reversed << 1 | word >> bit & 1;
        }
        return reversed;
    }

    private static boolean isModule(int m) {
        return m >= 0 && m < MODULES;
    }

    private static boolean hasOddParity(int bits) {
        return (Integer.bitCount(bits) & 1) == 1;
    }

    private int valvesOfEither() {
        int on = 0;
        for (int m = 0; m < MODULES; m++) {
            on |= modules[m].valvesOn;
        }
        return on;
    }

    private void write(int m, int gained) {
        for (int k = 0; k < ANOMALIES; k++) {
            if ((gained >> k & 1) == 1) {
                newest = (newest + 1) % RECORDS;
                records[newest] = ticks * 32L + m * 16 + k;
                kept = Math.min(kept + 1, RECORDS);
            }
        }
    }

    /** One sensor, as one module knows it. */
    private static final class Sensor {
        private boolean on;
        private boolean broken;
        private int valid = ALL_CHANNELS;

        void reset() {
            on = false;
            broken = false;
            valid = ALL_CHANNELS;
        }

        /** Answers whether the sensor became broken by this vote. */
        boolean vote(int channels) {
            if (broken) {
                return false;
            }
            if (valid == ALL_CHANNELS) {
                voteOfThree(channels);
            } else {
                voteOfTwo(channels & valid);
            }
            return broken;
        }

        // At most one of three differs from the others, so two channels or more always stay valid.
        private void voteOfThree(int channels) {
            on = Integer.bitCount(channels) >= 2;
            valid = on ? channels : ALL_CHANNELS & ~channels;
        }

        private void voteOfTwo(int channels) {
            if (channels == valid) {
                on = true;
            } else if (channels == 0) {
                on = false;
            } else {
                broken = true;
            }
        }

        int summary() {
            return (on ? 1 : 0) + (broken ? 2 : 0) + 4 * valid;
        }
    }

    /** One module; a new one in its place is the same object, made new again to spare room. */
    private static final class OneModule {
        private final Sensor[] sensors = new Sensor[SENSORS];
        private final int[] counts = new int[ANOMALIES];
        private boolean working = true;
        private boolean waiting;
        private boolean generalWasOn;
        private int valvesOn;
        private int generalStays;
        private int found;

        OneModule() {
            for (int s = 0; s < SENSORS; s++) {
                sensors[s] = new Sensor();
            }
        }

        void renew() {
            for (int s = 0; s < SENSORS; s++) {
                sensors[s].reset();
            }
            for (int k = 0; k < ANOMALIES; k++) {
                counts[k] = 0;
            }
            working = true;
            waiting = false;
            generalWasOn = false;
            valvesOn = 0;
            generalStays = 0;
            found = 0;
        }

        /** Answers whether the module worked until now. */
        boolean stop() {
            if (!working) {
                return false;
            }
            working = false;
            valvesOn = 0;
            endWait();
            return true;
        }

        void beginWait() {
            waiting = working;
            counts[SWITCH_WAIT] = 0;
        }

        private void endWait() {
            waiting = false;
            counts[SWITCH_WAIT] = 0;
        }

        /** Does the module's work at one tick and answers the anomalies that it got by it. */
        int step(int channels, boolean handleDown) {
            if (!working) {
                return 0;
            }
            int reached = voteAll(channels);
            switchValves(wantedValves(handleDown));
            reached |= watchConditions();
            reached |= watchSwitch();
            int gained = reached & ~found;
            found |= gained;
            return gained;
        }

        private int voteAll(int channels) {
            int becameBroken = 0;
            for (int s = 0; s < SENSORS; s++) {
                if (sensors[s].vote(channels >> CHANNELS * s & ALL_CHANNELS)) {
                    becameBroken |= 1 << s;
                }
            }
            return becameBroken;
        }

        private int wantedValves(boolean handleDown) {
            boolean right = handleDown ? gearsAreExtended() : gearsAreRetracted();
            if (right) {
                return isOn(DOORS_CLOSED) ? 0 : CLOSE_DOORS;
            }
            if (!isOn(DOORS_OPEN)) {
                return OPEN_DOORS;
            }
            return OPEN_DOORS | (handleDown ? EXTEND_GEARS : RETRACT_GEARS);
        }

        private void switchValves(int wanted) {
            boolean generalIsOn = (valvesOn & GENERAL) != 0;
            int next = wanted != 0 || generalStays > 0 ? GENERAL : 0;
            if (generalIsOn && generalWasOn) {
                next |= wanted & ~opposites(valvesOn);
            }
            generalWasOn = generalIsOn;
            valvesOn = next;
            generalStays = (next & MOVING) != 0 ? GENERAL_STAYS : Math.max(generalStays - 1, 0);
        }

        private static int opposites(int valves) {
            return (valves & (OPEN_DOORS | EXTEND_GEARS)) << 1
                    | (valves & (CLOSE_DOORS | RETRACT_GEARS)) >> 1;
        }

        /** Counts the ticks of each condition and answers the anomalies whose limit is reached. */
        private int watchConditions() {
            int reached = 0;
            for (int k = FIRST_TIMED; k < ANOMALIES; k++) {
                if (k != SWITCH_WAIT) {
                    counts[k] = conditionHolds(k) ? Math.min(counts[k] + 1, LIMITS[k]) : 0;
                    if (counts[k] == LIMITS[k]) {
                        reached |= 1 << k;
                    }
                }
            }
            return reached;
        }

        private boolean conditionHolds(int k) {
            switch (k) {
                case 6:
                    return isSwitchedOn(OPEN_DOORS) && !isOn(DOORS_OPEN);
                case 7:
                    return isSwitchedOn(CLOSE_DOORS) && !isOn(DOORS_CLOSED);
                case 8:
                    return isSwitchedOn(EXTEND_GEARS) && isOn(RETRACTED);
                case 9:
                    return isSwitchedOn(EXTEND_GEARS) && !isOn(EXTENDED);
                case 10:
                    return isSwitchedOn(RETRACT_GEARS) && isOn(EXTENDED);
                case 11:
                    return isSwitchedOn(RETRACT_GEARS) && !isOn(RETRACTED);
                case 12:
                    return isSwitchedOn(GENERAL) && !isOn(PRESSURE);
                case 13:
                    return !isSwitchedOn(GENERAL) && isOn(PRESSURE);
                case 15:
                    return isOn(SWITCH);
                default:
                    return false;
            }
        }

        /** Answers anomaly 14 if the wait for the switch reaches its limit. */
        private int watchSwitch() {
            if (!waiting) {
                return 0;
            }
            if (isOn(SWITCH)) {
                endWait();
                return 0;
            }
            counts[SWITCH_WAIT]++;
            if (counts[SWITCH_WAIT] < LIMITS[SWITCH_WAIT]) {
                return 0;
            }
            endWait();
            return 1 << SWITCH_WAIT;
        }

        boolean gearsAreExtended() {
            return isOn(EXTENDED) && !isOn(RETRACTED);
        }

        private boolean gearsAreRetracted() {
            return isOn(RETRACTED) && !isOn(EXTENDED);
        }

        private boolean isOn(int s) {
            return sensors[s].on;
        }

        private boolean isSwitchedOn(int valve) {
            return (valvesOn & valve) != 0;
        }

        int sensorsOn() {
            int bits = 0;
            for (int s = 0; s < SENSORS; s++) {
                bits |= sensors[s].on ? 1 << s : 0;
            }
            return bits;
        }

        int sensorsBroken() {
            int bits = 0;
            for (int s = 0; s < SENSORS; s++) {
                bits |= sensors[s].broken ? 1 << s : 0;
            }
            return bits;
        }

        int status() {
            if (!working) {
                return 0;
            }
            return found != 0 ? 1 : 3;
        }
    }
}
