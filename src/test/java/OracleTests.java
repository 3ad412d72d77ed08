import java.util.ArrayList;
import java.util.List;
import java.util.Random;

/**
 * Random runs of calls on SunShadows, each answer compared with that of a slow model that looks at
 * every cell and every box by itself and compares fractions. The seeds are fixed.
 */
public final class OracleTests {
    private static final int RUNS = 600;
    private static final int CALLS = 200;
    private static final long ILLEGAL_ARGUMENT = Long.MIN_VALUE;
    private static final long ILLEGAL_STATE = Long.MIN_VALUE + 1;

    private static int wrong = 0;

    public static void main(String[] args) {
        for (int run = 0; run < RUNS && wrong < 20; run++) {
            playRun(run);
        }
        System.out.println(wrong == 0 ? "all answers are as the model's" : wrong + " answers are not as the model's");
        if (wrong != 0) {
            System.exit(1);
        }
    }

    private static void playRun(int seed) {
        Random random = new Random(seed);
        int w = pick(random, -2, seed % 5 == 0 ? 70 : 14);
        int h = pick(random, -2, seed % 5 == 0 ? 70 : 14);
        SunShadows real = new SunShadows(w, h);
        Model model = new Model(w, h);
        boolean fine = seed % 2 == 0;
        for (int i = 0; i < CALLS; i++) {
            int kind = i < 30 ? pick(random, 0, 5) : pick(random, 0, 15);
            int[] a = arguments(random, kind, model, fine);
            long got = answer(real, kind, a);
            long want = model.answer(kind, a);
            if (got != want) {
                wrong++;
                System.out.println("seed " + seed + " call " + i + " kind " + kind + " "
                        + java.util.Arrays.toString(a) + " answered " + got + ", the model " + want);
            }
        }
    }

    private static int pick(Random random, int least, int most) {
        return least + random.nextInt(most - least + 1);
    }

    private static int clamp(int number, int least, int most) {
        return Math.max(least, Math.min(number, most));
    }

    // Now and then a number is just, or far, out of its bounds.
    private static int near(Random random, int least, int most) {
        int dice = random.nextInt(150);
        if (dice == 0) {
            return least - 1;
        }
        if (dice == 1) {
            return most + 1;
        }
        if (dice == 2) {
            return random.nextBoolean() ? Integer.MIN_VALUE : Integer.MAX_VALUE;
        }
        return pick(random, least, most);
    }

    private static int[] arguments(Random r, int kind, Model m, boolean fine) {
        int window = near(r, 0, Math.max(0, m.windows.size() - 1));
        int box = near(r, 0, Math.max(0, m.boxes.size() - 1));
        int hour = r.nextInt(8) == 0 ? near(r, 0, 23) : near(r, 0, 4);
        switch (kind) {
            case 0: return boxArguments(r, m, fine);
            case 1: return fine
                    ? new int[] {box, pick(r, -3, 3), pick(r, -3, 3), pick(r, -2, 2)}
                    : new int[] {box, near(r, -300, 300) / 3, near(r, -300, 300) / 3, near(r, -300, 300) / 9};
            case 2: return new int[] {box, r.nextInt(3) == 0 ? 0 : 1};
            case 3: return fine
                    ? new int[] {hour, near(r, -6, 6), near(r, -6, 6), pick(r, 0, 5)}
                    : new int[] {hour, near(r, -300, 300), near(r, -300, 300), near(r, 0, 100)};
            case 4: return new int[] {hour, near(r, 0, 1000)};
            case 5: {
                int x0 = near(r, 0, m.w - 1);
                int y0 = near(r, 0, m.h - 1);
                return new int[] {x0, y0, near(r, clamp(x0, 0, m.w - 1) + 1, m.w),
                    near(r, clamp(y0, 0, m.h - 1) + 1, m.h)};
            }
            case 6: return new int[] {near(r, 0, m.w - 1), near(r, 0, m.h - 1), hour};
            case 7: return new int[] {r.nextBoolean() ? -1 : box, hour};
            case 8: return new int[] {window, hour};
            case 9: return new int[] {near(r, 0, m.w * m.h / 2), hour};
            case 10: return new int[] {window, r.nextInt(3) == 0 ? -1 : hour};
            case 11: return new int[] {window};
            case 12: return new int[] {window, hour, r.nextBoolean() ? near(r, 1, 8) : near(r, 1, 100)};
            case 13: return new int[] {window, hour, near(r, 0, m.w * m.h / 3)};
            default: return new int[] {window};
        }
    }

    private static int[] boxArguments(Random r, Model m, boolean fine) {
        if (fine) {
            int x0 = pick(r, -3, m.w);
            int y0 = pick(r, -3, m.h);
            int z0 = pick(r, 0, 4);
            return new int[] {x0, y0, z0, x0 + near(r, 1, 5), y0 + near(r, 1, 4), z0 + near(r, 0, 4)};
        }
        int x0 = near(r, -100, 199);
        int y0 = near(r, -100, 199);
        int z0 = near(r, 0, 100);
        return new int[] {x0, y0, z0, near(r, clamp(x0, -100, 199) + 1, 200),
            near(r, clamp(y0, -100, 199) + 1, 200), near(r, clamp(z0, 0, 100), 100)};
    }

    private static long answer(SunShadows s, int kind, int[] a) {
        try {
            switch (kind) {
                case 0: return s.box(a[0], a[1], a[2], a[3], a[4], a[5]);
                case 1: return s.move(a[0], a[1], a[2], a[3]) ? 1 : 0;
                case 2: return s.there(a[0], a[1] != 0) ? 1 : 0;
                case 3: s.sun(a[0], a[1], a[2], a[3]); return 0;
                case 4: return s.light(a[0], a[1]);
                case 5: return s.window(a[0], a[1], a[2], a[3]);
                case 6: return s.shadow(a[0], a[1], a[2]) ? 1 : 0;
                case 7: return s.shadows(a[0], a[1]);
                case 8: return s.dark(a[0], a[1]);
                case 9: return s.cell(a[0], a[1]);
                case 10: return s.lit(a[0], a[1]);
                case 11: return s.brightest(a[0]);
                case 12: return s.ledge(a[0], a[1], a[2]);
                case 13: return s.deep(a[0], a[1], a[2]);
                default: return s.worst(a[0]);
            }
        } catch (IllegalArgumentException e) {
            return ILLEGAL_ARGUMENT;
        } catch (IllegalStateException e) {
            return ILLEGAL_STATE;
        }
    }

    /** What the document says, cell by cell. */
    private static final class Model {
        final int w;
        final int h;
        final List<int[]> boxes = new ArrayList<>();
        final List<Boolean> on = new ArrayList<>();
        final List<int[]> windows = new ArrayList<>();
        final int[][] suns = new int[24][3];
        final int[] lights = new int[24];

        Model(int w, int h) {
            this.w = w < 1 ? 1 : w > 60 ? 60 : w;
            this.h = h < 1 ? 1 : h > 60 ? 60 : h;
        }

        long answer(int kind, int[] a) {
            if (!isLegal(kind, a)) {
                return ILLEGAL_ARGUMENT;
            }
            if (isRefused(kind, a)) {
                return ILLEGAL_STATE;
            }
            switch (kind) {
                case 0: boxes.add(a.clone()); on.add(true); return boxes.size() - 1;
                case 1: return moved(a) ? 1 : 0;
                case 2: return on.set(a[0], a[1] != 0) ? 1 : 0;
                case 3: suns[a[0]] = new int[] {a[1], a[2], a[3]}; return 0;
                case 4: { int was = lights[a[0]]; lights[a[0]] = a[1]; return was; }
                case 5: windows.add(a.clone()); return windows.size() - 1;
                case 6: return isDark(a[0], a[1], a[2], -1, null) ? 1 : 0;
                case 7: return shadows(a[0], a[1]);
                case 8: return dark(a[0], a[1], -1, null);
                case 9: return cell(a[0], a[1]);
                case 10: return a[1] == -1 ? day(a[0], -1) : lit(a[0], a[1], -1);
                case 11: return brightest(a[0]);
                case 12: return dark(a[0], a[1], -1, ledge(a[0], a[2]));
                case 13: return deep(a[0], a[1], a[2]);
                default: return worst(a[0]);
            }
        }

        boolean isLegal(int kind, int[] a) {
            switch (kind) {
                case 0: return isBox(a);
                case 1: return in(a[0], 0, boxes.size() - 1) && in(a[1], -300, 300) && in(a[2], -300, 300)
                        && in(a[3], -300, 300);
                case 2: return in(a[0], 0, boxes.size() - 1);
                case 3: return in(a[0], 0, 23) && in(a[1], -300, 300) && in(a[2], -300, 300) && in(a[3], 0, 100);
                case 4: return in(a[0], 0, 23) && in(a[1], 0, 1000);
                case 5: return in(a[0], 0, w - 1) && in(a[1], 0, h - 1) && in(a[2], 1, w) && in(a[3], 1, h)
                        && a[0] < a[2] && a[1] < a[3];
                case 6: return in(a[0], 0, w - 1) && in(a[1], 0, h - 1) && in(a[2], 0, 23);
                case 7: return in(a[0], -1, boxes.size() - 1) && in(a[1], 0, 23);
                case 8: return in(a[0], 0, windows.size() - 1) && in(a[1], 0, 23);
                case 9: return a[0] >= 0 && in(a[1], 0, 23);
                case 10: return in(a[0], 0, windows.size() - 1) && in(a[1], -1, 23);
                case 12: return in(a[0], 0, windows.size() - 1) && in(a[1], 0, 23) && in(a[2], 1, 100);
                case 13: return in(a[0], 0, windows.size() - 1) && in(a[1], 0, 23) && a[2] >= 0;
                default: return in(a[0], 0, windows.size() - 1);
            }
        }

        boolean isRefused(int kind, int[] a) {
            switch (kind) {
                case 0: return boxes.size() == 10;
                case 5: return windows.size() == 10;
                case 6: return suns[a[2]][2] == 0;
                case 7: case 8: case 9: case 12: case 13: return suns[a[1]][2] == 0;
                default: return false;
            }
        }

        static boolean in(int number, int least, int most) {
            return number >= least && number <= most;
        }

        static boolean isBox(int[] b) {
            return in(b[0], -100, 200) && in(b[1], -100, 200) && in(b[2], 0, 100) && in(b[3], -100, 200)
                    && in(b[4], -100, 200) && in(b[5], 0, 100) && b[0] < b[3] && b[1] < b[4] && b[2] <= b[5];
        }

        boolean moved(int[] a) {
            int[] b = boxes.get(a[0]).clone();
            for (int i = 0; i < 6; i++) {
                b[i] += a[1 + i % 3];
            }
            if (!isBox(b)) {
                return false;
            }
            boxes.set(a[0], b);
            return true;
        }

        boolean isDark(int x, int y, int hour, int without, int[] more) {
            for (int i = 0; i < boxes.size(); i++) {
                if (i != without && on.get(i) && shades(boxes.get(i), x, y, suns[hour])) {
                    return true;
                }
            }
            return more != null && shades(more, x, y, suns[hour]);
        }

        // Every demand on the distance z is a lower or an upper bound n / d; a z meets them all if and
        // only if no lower bound is above an upper one.
        static boolean shades(int[] b, int x, int y, int[] sun) {
            List<long[]> lower = new ArrayList<>();
            List<long[]> upper = new ArrayList<>();
            lower.add(new long[] {b[2], 1});
            upper.add(new long[] {b[5], 1});
            int[] middle = {2 * x + 1, 2 * y + 1};
            for (int i = 0; i < 2; i++) {
                // 2 b[i] Z <= middle Z - 2 z sun <= 2 b[i + 3] Z
                long atMost = (long) (middle[i] - 2 * b[i]) * sun[2];
                long atLeast = (long) (middle[i] - 2 * b[i + 3]) * sun[2];
                long slope = 2L * sun[i];
                if (slope == 0 && (atMost < 0 || atLeast > 0)) {
                    return false;
                }
                if (slope > 0) {
                    lower.add(new long[] {atLeast, slope});
                    upper.add(new long[] {atMost, slope});
                } else if (slope < 0) {
                    lower.add(new long[] {-atMost, -slope});
                    upper.add(new long[] {-atLeast, -slope});
                }
            }
            for (long[] low : lower) {
                for (long[] high : upper) {
                    if (low[0] * high[1] > high[0] * low[1]) {
                        return false;
                    }
                }
            }
            return true;
        }

        int shadows(int box, int hour) {
            int count = 0;
            for (int y = 0; y < h; y++) {
                for (int x = 0; x < w; x++) {
                    boolean is = box == -1 ? isDark(x, y, hour, -1, null)
                            : on.get(box) && shades(boxes.get(box), x, y, suns[hour]);
                    count += is ? 1 : 0;
                }
            }
            return count;
        }

        int dark(int window, int hour, int without, int[] more) {
            int[] v = windows.get(window);
            int count = 0;
            for (int y = v[1]; y < v[3]; y++) {
                for (int x = v[0]; x < v[2]; x++) {
                    count += isDark(x, y, hour, without, more) ? 1 : 0;
                }
            }
            return count;
        }

        int cell(int place, int hour) {
            int before = 0;
            for (int y = 0; y < h; y++) {
                for (int x = 0; x < w; x++) {
                    if (isDark(x, y, hour, -1, null) && before++ == place) {
                        return 100 * y + x;
                    }
                }
            }
            return -1;
        }

        int lit(int window, int hour, int without) {
            if (suns[hour][2] == 0) {
                return 0;
            }
            int[] v = windows.get(window);
            return lights[hour] * ((v[2] - v[0]) * (v[3] - v[1]) - dark(window, hour, without, null));
        }

        int day(int window, int without) {
            int sum = 0;
            for (int hour = 0; hour < 24; hour++) {
                sum += lit(window, hour, without);
            }
            return sum;
        }

        int brightest(int window) {
            int best = -1;
            for (int hour = 0; hour < 24; hour++) {
                int amount = lit(window, hour, -1);
                if (amount > 0 && (best == -1 || amount > lit(window, best, -1))) {
                    best = hour;
                }
            }
            return best;
        }

        int[] ledge(int window, int depth) {
            int[] v = windows.get(window);
            return new int[] {v[0], v[3], 0, v[2], v[3] + 1, depth};
        }

        int deep(int window, int hour, int cells) {
            if (dark(window, hour, -1, null) >= cells) {
                return 0;
            }
            for (int depth = 1; depth <= 100; depth++) {
                if (dark(window, hour, -1, ledge(window, depth)) >= cells) {
                    return depth;
                }
            }
            return -1;
        }

        int worst(int window) {
            int worst = -1;
            int most = 0;
            for (int i = 0; i < boxes.size(); i++) {
                int taken = day(window, i) - day(window, -1);
                if (taken > most) {
                    worst = i;
                    most = taken;
                }
            }
            return worst;
        }
    }
}
