import java.util.ArrayList;
import java.util.Arrays;
import java.util.List;
import java.util.Random;

/**
 * Made-up runs of calls, the same ones each time, against a plain model that keeps the whole history
 * of each module and reads the document's sentences off it.
 */
public final class ModelTests {
    private static final int RUNS = 6000;
    private static final int CALLS = 512;
    private static final int[] LENGTHS = {1, 1, 1, 1, 2, 2, 3, 5, 8, 9, 10, 11, 19, 20, 21, 29, 30, 31, 58, 69, 70, 71, 97, 99, 100};
    private static final int[] STRANGE = {-2, -1, 2, 3, 6, 7, 15, 16, 0, 17, 101, 255, 256, Integer.MIN_VALUE, Integer.MAX_VALUE};

    /** What a module was after one tick. */
    private static final class Past {
        boolean[] value = new boolean[6];
        boolean[] valve = new boolean[5];
    }

    private static final class Life {
        boolean works = true;
        boolean[][] valid = new boolean[6][3];
        boolean[] broken = new boolean[6];
        boolean[] anomaly = new boolean[16];
        List<Past> past = new ArrayList<>();
        int waitFrom = -1;

        Life() {
            for (boolean[] channels : valid) {
                Arrays.fill(channels, true);
            }
        }

        boolean value(int s) {
            return !past.isEmpty() && past.get(past.size() - 1).value[s];
        }

        boolean valve(int v, int ticksAgo) {
            int at = past.size() - ticksAgo;
            return at >= 0 && at < past.size() && past.get(at).valve[v];
        }

        boolean valveNow(int v) {
            return works && valve(v, 1);
        }

        List<Integer> tick(int channels, boolean down) {
            List<Integer> got = new ArrayList<>();
            if (!works) {
                return got;
            }
            boolean[] before = anomaly.clone();
            Past now = new Past();
            for (int s = 0; s < 6; s++) {
                now.value[s] = vote(s, channels);
            }
            boolean[] wanted = wanted(now.value, down);
            for (int v = 0; v < 5; v++) {
                now.valve[v] = v == 0 ? general(wanted) : wanted[v] && valve(0, 1) && valve(0, 2) && !valve(v % 2 == 1 ? v + 1 : v - 1, 1);
            }
            past.add(now);
            for (int k = 6; k < 16; k++) {
                if (k != 14 && running(k) == limit(k)) {
                    anomaly[k] = true;
                }
            }
            if (waitFrom >= 0 && now.value[5]) {
                waitFrom = -1;
            }
            if (waitFrom >= 0 && past.size() - waitFrom == 10) {
                anomaly[14] = true;
                waitFrom = -1;
            }
            for (int k = 0; k < 16; k++) {
                if (anomaly[k] && !before[k]) {
                    got.add(k);
                }
            }
            return got;
        }

        boolean vote(int s, int channels) {
            int on = 0;
            int off = 0;
            for (int c = 0; c < 3; c++) {
                if (valid[s][c]) {
                    if ((channels & 1 << 3 * s + c) != 0) {
                        on++;
                    } else {
                        off++;
                    }
                }
            }
            if (broken[s]) {
                return value(s);
            }
            if (on + off == 2 && on == 1) {
                broken[s] = true;
                anomaly[s] = true;
                return value(s);
            }
            for (int c = 0; c < 3; c++) {
                if ((channels & 1 << 3 * s + c) != 0 != on > off) {
                    valid[s][c] = on + off == 3 ? false : valid[s][c];
                }
            }
            return on > off;
        }

        boolean[] wanted(boolean[] value, boolean down) {
            boolean[] wanted = new boolean[5];
            boolean right = down && value[0] && !value[1] || !down && value[1] && !value[0];
            wanted[1] = !right;
            wanted[2] = right && !value[3];
            wanted[3] = !right && value[2] && down;
            wanted[4] = !right && value[2] && !down;
            return wanted;
        }

        boolean general(boolean[] wanted) {
            for (int v = 1; v < 5; v++) {
                if (wanted[v]) {
                    return true;
                }
                for (int ago = 1; ago <= 10; ago++) {
                    if (valve(v, ago)) {
                        return true;
                    }
                }
            }
            return false;
        }

        int limit(int k) {
            return k == 12 ? 20 : k == 15 ? 30 : k == 9 || k == 11 || k == 13 ? 100 : 70;
        }

        boolean holds(int k, Past p) {
            return k == 6 && p.valve[1] && !p.value[2]
                    || k == 7 && p.valve[2] && !p.value[3]
                    || k == 8 && p.valve[3] && p.value[1]
                    || k == 9 && p.valve[3] && !p.value[0]
                    || k == 10 && p.valve[4] && p.value[0]
                    || k == 11 && p.valve[4] && !p.value[1]
                    || k == 12 && p.valve[0] && !p.value[4]
                    || k == 13 && !p.valve[0] && p.value[4]
                    || k == 15 && p.value[5];
        }

        int running(int k) {
            if (k == 14) {
                return waitFrom < 0 ? 0 : past.size() - waitFrom;
            }
            int row = 0;
            while (row < limit(k) && row < past.size() && holds(k, past.get(past.size() - 1 - row))) {
                row++;
            }
            return row;
        }

        int anomalySum() {
            int sum = 0;
            for (int k = 0; k < 16; k++) {
                sum += anomaly[k] ? 1 << k : 0;
            }
            return sum;
        }

        int valveSum() {
            int sum = 0;
            for (int v = 0; v < 5; v++) {
                sum += valveNow(v) ? 1 << v : 0;
            }
            return sum;
        }
    }

    private static final class Model {
        Life[] lives = {new Life(), new Life()};
        List<Long> records = new ArrayList<>();
        int time = 0;
        boolean down = false;

        boolean is(int m) {
            return m == 0 || m == 1;
        }

        boolean handle(boolean to) {
            boolean moved = to != down;
            down = to;
            for (Life life : lives) {
                if (moved && life.works) {
                    life.waitFrom = life.past.size();
                }
            }
            return moved;
        }

        int tick(int channels, int n) {
            if (n < 1 || n > 100) {
                return -1;
            }
            for (int i = 0; i < n; i++) {
                time++;
                for (int m = 0; m < 2; m++) {
                    for (int k : lives[m].tick(channels, down)) {
                        records.add(time * 32L + m * 16 + k);
                    }
                }
            }
            return time;
        }

        boolean fail(int m) {
            if (!is(m) || !lives[m].works) {
                return false;
            }
            lives[m].works = false;
            lives[m].waitFrom = -1;
            return true;
        }

        boolean replace(int m) {
            if (!is(m)) {
                return false;
            }
            lives[m] = new Life();
            return true;
        }

        int valves(int m) {
            return m == -1 ? lives[0].valveSum() | lives[1].valveSum() : is(m) ? lives[m].valveSum() : -1;
        }

        int sensor(int m, int s) {
            if (!is(m) || s < 0 || s > 5) {
                return -1;
            }
            Life life = lives[m];
            return (life.value(s) ? 1 : 0) + (life.broken[s] ? 2 : 0) + (life.valid[s][0] ? 4 : 0) + (life.valid[s][1] ? 8 : 0) + (life.valid[s][2] ? 16 : 0);
        }

        int lights() {
            boolean green = false;
            boolean orange = false;
            boolean red = false;
            for (Life life : lives) {
                green |= life.works && life.value(0) && !life.value(1);
                orange |= life.valveSum() > 1;
                red |= life.anomalySum() > 0;
            }
            return (green ? 1 : 0) + (orange ? 2 : 0) + (red ? 4 : 0);
        }

        long entry(int k) {
            return k < 0 || k > 15 || k >= records.size() ? -1 : records.get(records.size() - 1 - k);
        }

        int word(int label, int m) {
            if (!is(m) || label < 0 || label > 255) {
                return 0;
            }
            StringBuilder bits = new StringBuilder();
            append(bits, !lives[m].works ? 0 : lives[m].anomalySum() > 0 ? 1 : 3, 2);
            append(bits, 0, 2);
            for (int s = 5; s >= 0; s--) {
                append(bits, lives[m].broken[s] ? 1 : 0, 1);
            }
            for (int s = 5; s >= 0; s--) {
                append(bits, lives[m].value(s) ? 1 : 0, 1);
            }
            append(bits, lives[m].valveSum(), 5);
            append(bits, m + 1, 2);
            append(bits, label, 8);
            long ones = bits.chars().filter(bit -> bit == '1').count();
            return Integer.parseUnsignedInt((ones % 2 == 0 ? "1" : "0") + bits, 2);
        }

        static void append(StringBuilder bits, int number, int width) {
            String text = Integer.toBinaryString(number);
            bits.append("0".repeat(width - text.length())).append(text);
        }
    }

    private static final int[] reached = new int[16];
    private static int mostRecords = 0;
    private static int lastChannels;
    private static int wrong = 0;
    private static long calls = 0;

    private static void due(int run, String call, long got, long want) {
        calls++;
        if (got != want && ++wrong <= 20) {
            System.out.println("run " + run + ": " + call + " answered " + got + ", due is " + want);
        }
    }

    /** Channels: mostly all three alike, and mostly as a gear would have them. */
    private static int channels(Random r, int last, int faults) {
        int channels = r.nextInt(3) == 0 ? last : 0;
        if (channels == 0) {
            int gears = r.nextInt(8);
            int doors = r.nextInt(6);
            channels |= gears < 3 ? 7 : gears < 6 ? 7 << 3 : gears == 6 ? 63 : 0;
            channels |= doors < 2 ? 7 << 6 : doors < 4 ? 7 << 9 : doors == 4 ? 63 << 6 : 0;
            channels |= r.nextInt(3) < 2 ? 7 << 12 : 0;
            channels |= r.nextInt(4) == 0 ? 7 << 15 : 0;
        } else {
            channels ^= 7 << 3 * r.nextInt(6);
        }
        if (r.nextInt(100) < faults) {
            channels ^= 1 << r.nextInt(18);
        }
        if (r.nextInt(10) == 0) {
            channels |= r.nextInt() << 18;
        }
        return channels;
    }

    private static int module(Random r) {
        return r.nextInt(12) == 0 ? STRANGE[r.nextInt(STRANGE.length)] : r.nextInt(2);
    }

    private static void change(int run, Random r, GearModules x, Model y, int faults) {
        int kind = r.nextInt(100);
        if (kind < 14) {
            boolean down = r.nextBoolean();
            due(run, "handle(" + down + ")", x.handle(down) ? 1 : 0, y.handle(down) ? 1 : 0);
        } else if (kind < 18) {
            int m = module(r);
            due(run, "fail(" + m + ")", x.fail(m) ? 1 : 0, y.fail(m) ? 1 : 0);
        } else if (kind < 23) {
            int m = module(r);
            due(run, "replace(" + m + ")", x.replace(m) ? 1 : 0, y.replace(m) ? 1 : 0);
        } else {
            lastChannels = channels(r, lastChannels, faults);
            int n = r.nextInt(40) == 0 ? STRANGE[r.nextInt(STRANGE.length)] : LENGTHS[r.nextInt(LENGTHS.length)];
            due(run, "tick(" + lastChannels + ", " + n + ")", x.tick(lastChannels, n), y.tick(lastChannels, n));
        }
    }

    private static void look(int run, Random r, GearModules x, Model y) {
        int m = module(r);
        int k = r.nextInt(12) == 0 ? STRANGE[r.nextInt(STRANGE.length)] : r.nextInt(16);
        switch (r.nextInt(9)) {
            case 0 -> due(run, "works(" + m + ")", x.works(m) ? 1 : 0, y.is(m) && y.lives[m].works ? 1 : 0);
            case 1 -> due(run, "time()", x.time(), y.time);
            case 2 -> due(run, "valves(" + m + ")", x.valves(m), y.valves(m));
            case 3 -> due(run, "sensor(" + m + ", " + k % 8 + ")", x.sensor(m, k % 8), y.sensor(m, k % 8));
            case 4 -> due(run, "anomalies(" + m + ")", x.anomalies(m), y.is(m) ? y.lives[m].anomalySum() : -1);
            case 5 -> due(run, "running(" + m + ", " + k + ")", x.running(m, k), y.is(m) && k > 5 && k < 16 ? y.lives[m].running(k) : -1);
            case 6 -> due(run, "lights()", x.lights(), y.lights());
            case 7 -> due(run, "entry(" + k + ")", x.entry(k), y.entry(k));
            default -> due(run, "word(" + k * 17 + ", " + m + ")", x.word(k * 17, m), y.word(k * 17, m));
        }
    }

    /** The whole state, at a run's end. */
    private static void lookAtAll(int run, GearModules x, Model y) {
        due(run, "valves(-1)", x.valves(-1), y.valves(-1));
        due(run, "lights()", x.lights(), y.lights());
        for (int m = 0; m < 2; m++) {
            due(run, "word(0, " + m + ")", x.word(0, m), y.word(0, m));
            due(run, "anomalies(" + m + ")", x.anomalies(m), y.lives[m].anomalySum());
            for (int s = 0; s < 6; s++) {
                due(run, "sensor(" + m + ", " + s + ")", x.sensor(m, s), y.sensor(m, s));
            }
            for (int k = 6; k < 16; k++) {
                due(run, "running(" + m + ", " + k + ")", x.running(m, k), y.lives[m].running(k));
            }
        }
        for (int k = 0; k < 16; k++) {
            due(run, "entry(" + k + ")", x.entry(k), y.entry(k));
        }
    }

    private static void run(int run) {
        Random r = new Random(run);
        GearModules x = new GearModules();
        Model y = new Model();
        int faults = run % 3 == 0 ? 0 : run % 3 == 1 ? 1 : 12;
        int changes = 10 + r.nextInt(100);
        lastChannels = 0;
        for (int i = 0; i < changes; i++) {
            change(run, r, x, y, faults);
            look(run, r, x, y);
            look(run, r, x, y);
            look(run, r, x, y);
        }
        if (4 * changes + 60 <= CALLS) {
            lookAtAll(run, x, y);
        }
        for (long record : y.records) {
            reached[(int) (record % 16)]++;
        }
        mostRecords = Math.max(mostRecords, y.records.size());
    }

    public static void main(String[] args) {
        for (int run = 0; run < RUNS; run++) {
            run(run);
        }
        // Runs that never reach an anomaly would say nothing about it.
        for (int k = 0; k < 16; k++) {
            if (reached[k] < 50) {
                wrong++;
                System.out.println("the runs reach anomaly " + k + " only " + reached[k] + " times");
            }
        }
        if (mostRecords <= 16) {
            wrong++;
            System.out.println("no run writes more records than are kept");
        }
        System.out.println(wrong == 0 ? calls + " answers are as due" : wrong + " answers are not as due");
        if (wrong != 0) {
            System.exit(1);
        }
    }
}
