/**
 * Shadows that boxes before a wall throw on its cells, hour by hour, and the light that windows get.
 *
 * A row of the wall has at most 60 cells, so the cells of a row that lie in shadow are held as the
 * bits of one long: bit x is cell x. All arithmetic is on whole numbers, so every answer is exact.
 */
public final class SunShadows {
    public static final int NONE = -1;

    private static final int MOST_CELLS = 60;
    private static final int MOST_BOXES = 10;
    private static final int MOST_WINDOWS = 10;
    private static final int HOURS = 24;
    private static final int MOST_LIGHT = 1000;
    private static final int LEAST_PLACE = -100;
    private static final int MOST_PLACE = 200;
    private static final int MOST_DISTANCE = 100;
    private static final int MOST_SLANT = 300;
    private static final int MOST_SUN_Z = 100;
    private static final int MOST_MOVE = 300;
    private static final int MOST_DEPTH = 100;
    private static final int FIRST_DEPTH_STEP = 64;
    private static final int ROW_FACTOR = 100;

    private final int width;
    private final int height;
    private final Box[] boxes = new Box[MOST_BOXES];
    private final Window[] windows = new Window[MOST_WINDOWS];
    private final Hour[] hours = new Hour[HOURS];
    // Scratch rows of worst(), kept so that no call makes new ones.
    private final long[] shadeByBox = new long[MOST_BOXES];
    private final int[] takenByBox = new int[MOST_BOXES];
    private int boxCount = 0;
    private int windowCount = 0;

    public SunShadows(int w, int h) {
        width = Math.max(1, Math.min(w, MOST_CELLS));
        height = Math.max(1, Math.min(h, MOST_CELLS));
        for (int i = 0; i < hours.length; i++) {
            hours[i] = new Hour();
        }
    }

    public int box(int x0, int y0, int z0, int x1, int y1, int z1)
            throws IllegalArgumentException, IllegalStateException {
        if (!Box.isAllowed(x0, y0, z0, x1, y1, z1)) {
            throw new IllegalArgumentException("not a box within the bounds");
        }
        if (boxCount >= boxes.length) {
            throw new IllegalStateException("there are 10 boxes");
        }
        int number = boxCount;
        boxes[number] = new Box(x0, y0, z0, x1, y1, z1);
        boxCount = number + 1;
        return number;
    }

    public boolean move(int box, int x, int y, int z) throws IllegalArgumentException {
        Box moved = knownBox(box);
        if (!isWithin(x, -MOST_MOVE, MOST_MOVE) || !isWithin(y, -MOST_MOVE, MOST_MOVE)
                || !isWithin(z, -MOST_MOVE, MOST_MOVE)) {
            throw new IllegalArgumentException("a box moves by -300 .. 300");
        }
        return moved.shiftIfAllowed(x, y, z);
    }

    public boolean there(int box, boolean on) throws IllegalArgumentException {
        Box known = knownBox(box);
        boolean was = known.present;
        known.present = on;
        return was;
    }

    public void sun(int hour, int x, int y, int z) throws IllegalArgumentException {
        Hour known = knownHour(hour);
        if (!isWithin(x, -MOST_SLANT, MOST_SLANT) || !isWithin(y, -MOST_SLANT, MOST_SLANT)
                || !isWithin(z, 0, MOST_SUN_Z)) {
            throw new IllegalArgumentException("the sun's direction is out of bounds");
        }
        known.sunX = x;
        known.sunY = y;
        known.sunZ = z;
    }

    public int light(int hour, int amount) throws IllegalArgumentException {
        Hour known = knownHour(hour);
        if (!isWithin(amount, 0, MOST_LIGHT)) {
            throw new IllegalArgumentException("light is 0 .. 1000");
        }
        int was = known.amount;
        known.amount = amount;
        return was;
    }

    public int window(int x0, int y0, int x1, int y1) throws IllegalArgumentException, IllegalStateException {
        if (x0 < 0 || x0 >= x1 || x1 > width || y0 < 0 || y0 >= y1 || y1 > height) {
            throw new IllegalArgumentException("not a window within the wall");
        }
        if (windowCount >= windows.length) {
            throw new IllegalStateException("there are 10 windows");
        }
        int number = windowCount;
        windows[number] = new Window(x0, y0, x1, y1);
        windowCount = number + 1;
        return number;
    }

    // ---- shadows

    public boolean shadow(int x, int y, int hour) throws IllegalArgumentException, IllegalStateException {
        if (!isWithin(x, 0, width - 1) || !isWithin(y, 0, height - 1)) {
            throw new IllegalArgumentException("no such cell");
        }
        return hasCell(shadeOfRow(y, sunnyHour(hour)), x);
    }

    public int shadows(int box, int hour) throws IllegalArgumentException, IllegalStateException {
        Box alone = box == NONE ? null : knownBox(box);
        Hour sunny = sunnyHour(hour);
        int count = 0;
        for (int y = 0; y < height; y++) {
            long shade = alone == null ? shadeOfRow(y, sunny) : alone.shadeThrownOnRow(y, sunny, width);
            count += Long.bitCount(shade);
        }
        return count;
    }

    public int dark(int window, int hour) throws IllegalArgumentException, IllegalStateException {
        Window known = knownWindow(window);
        return darkCells(known, sunnyHour(hour), null);
    }

    public int cell(int place, int hour) throws IllegalArgumentException, IllegalStateException {
        if (place < 0) {
            throw new IllegalArgumentException("a place is not below 0");
        }
        Hour sunny = sunnyHour(hour);
        int before = place;
        for (int y = 0; y < height; y++) {
            long shade = shadeOfRow(y, sunny);
            int count = Long.bitCount(shade);
            if (before < count) {
                return ROW_FACTOR * y + cellWithBefore(shade, before);
            }
            before -= count;
        }
        return NONE;
    }

    // ---- light

    public int lit(int window, int hour) throws IllegalArgumentException {
        Window known = knownWindow(window);
        if (hour != NONE) {
            return lightOfHour(known, knownHour(hour));
        }
        int sum = 0;
        for (Hour each : hours) {
            sum += lightOfHour(known, each);
        }
        return sum;
    }

    public int brightest(int window) throws IllegalArgumentException {
        Window known = knownWindow(window);
        int best = NONE;
        int most = 0;
        for (int i = 0; i < hours.length; i++) {
            int amount = lightOfHour(known, hours[i]);
            if (amount > most) {
                best = i;
                most = amount;
            }
        }
        return best;
    }

    public int ledge(int window, int hour, int deep) throws IllegalArgumentException, IllegalStateException {
        Window known = knownWindow(window);
        if (!isWithin(deep, 1, MOST_DEPTH)) {
            throw new IllegalArgumentException("a ledge is 1 .. 100 deep");
        }
        return darkCells(known, sunnyHour(hour), known.ledgeOf(deep));
    }

    public int deep(int window, int hour, int cells) throws IllegalArgumentException, IllegalStateException {
        Window known = knownWindow(window);
        if (cells < 0) {
            throw new IllegalArgumentException("cells are not below 0");
        }
        Hour sunny = sunnyHour(hour);
        if (darkCells(known, sunny, null) >= cells) {
            return 0;
        }
        int tooLittle = deepestTooLittle(known, sunny, cells);
        return tooLittle < MOST_DEPTH ? tooLittle + 1 : NONE;
    }

    public int worst(int window) throws IllegalArgumentException {
        Window known = knownWindow(window);
        for (int i = 0; i < takenByBox.length; i++) {
            takenByBox[i] = 0;
        }
        for (Hour hour : hours) {
            if (hour != null && hour.hasSun() && hour.amount > 0) {
                addTaken(known, hour);
            }
        }
        int worst = NONE;
        int most = 0;
        for (int i = 0; i < takenByBox.length; i++) {
            if (takenByBox[i] > most) {
                worst = i;
                most = takenByBox[i];
            }
        }
        return worst;
    }

    private Box knownBox(int number) {
        Box found = number >= 0 && number < boxes.length ? boxes[number] : null;
        if (found == null) {
            throw new IllegalArgumentException("no such box");
        }
        return found;
    }

    private Window knownWindow(int number) {
        Window found = number >= 0 && number < windows.length ? windows[number] : null;
        if (found == null) {
            throw new IllegalArgumentException("no such window");
        }
        return found;
    }

    private Hour knownHour(int number) {
        Hour found = number >= 0 && number < hours.length ? hours[number] : null;
        if (found == null) {
            throw new IllegalArgumentException("no such hour");
        }
        return found;
    }

    // Callers look at all their other arguments first: an illegal argument goes before an illegal state.
    private Hour sunnyHour(int number) {
        Hour known = knownHour(number);
        if (!known.hasSun()) {
            throw new IllegalStateException("the hour has no sun");
        }
        return known;
    }

    private long shadeOfRow(int y, Hour hour) {
        long shade = 0L;
        for (Box box : boxes) {
            if (box != null) {
                shade |= box.shadeThrownOnRow(y, hour, width);
            }
        }
        return shade;
    }

    private int darkCells(Window window, Hour hour, Box ledge) {
        long columns = window.columns();
        int count = 0;
        for (int y = window.y0; y < window.y1; y++) {
            long shade = shadeOfRow(y, hour);
            if (ledge != null) {
                shade |= ledge.shadeThrownOnRow(y, hour, width);
            }
            count += Long.bitCount(shade & columns);
        }
        return count;
    }

    private int lightOfHour(Window window, Hour hour) {
        if (hour == null || !hour.hasSun() || hour.amount == 0) {
            return 0;
        }
        return hour.amount * (window.cellCount() - darkCells(window, hour, null));
    }

    // A deeper ledge holds all points of a shallower one, so the depths that are too little come first
    // and halving the step finds the last of them.
    private int deepestTooLittle(Window window, Hour hour, int cells) {
        Box ledge = window.ledgeOf(0);
        int tooLittle = 0;
        for (int step = FIRST_DEPTH_STEP; step > 0; step /= 2) {
            int depth = tooLittle + step;
            ledge.z1 = depth;
            if (depth <= MOST_DEPTH && darkCells(window, hour, ledge) < cells) {
                tooLittle = depth;
            }
        }
        return tooLittle;
    }

    private void addTaken(Window window, Hour hour) {
        long columns = window.columns();
        for (int y = window.y0; y < window.y1; y++) {
            long alone = columns & shadeOfOneBoxOnly(y, hour);
            for (int i = 0; i < shadeByBox.length && i < takenByBox.length; i++) {
                takenByBox[i] += hour.amount * Long.bitCount(shadeByBox[i] & alone);
            }
        }
    }

    // Without a box only those cells are lit again that no other box shades. Leaves the boxes' own
    // shades in shadeByBox.
    private long shadeOfOneBoxOnly(int y, Hour hour) {
        long byOne = 0L;
        long byMore = 0L;
        for (int i = 0; i < boxes.length && i < shadeByBox.length; i++) {
            Box box = boxes[i];
            long shade = box == null ? 0L : box.shadeThrownOnRow(y, hour, width);
            shadeByBox[i] = shade;
            byMore |= byOne & shade;
            byOne |= shade;
        }
        return byOne & ~byMore;
    }

    private static boolean isWithin(int number, int least, int most) {
        return number >= least && number <= most;
    }

    private static boolean hasCell(long cells, int x) {
        return ((cells >>> x) & 1L) != 0L;
    }

    private static long cellsBetween(int first, int last) {
        if (first > last) {
            return 0L;
        }
        return ((1L << (last - first + 1)) - 1L) << first;
    }

    private static int cellWithBefore(long cells, int before) {
        int left = before;
        for (int x = 0; x < MOST_CELLS; x++) {
            if (hasCell(cells, x)) {
                if (left == 0) {
                    return x;
                }
                left--;
            }
        }
        return NONE;
    }

    private static final class Hour {
        int sunX = 0;
        int sunY = 0;
        int sunZ = 0;
        int amount = 0;

        boolean hasSun() {
            return sunZ > 0;
        }
    }

    private static final class Window {
        final int x0;
        final int y0;
        final int x1;
        final int y1;

        Window(int x0, int y0, int x1, int y1) {
            this.x0 = x0;
            this.y0 = y0;
            this.x1 = x1;
            this.y1 = y1;
        }

        int cellCount() {
            return (x1 - x0) * (y1 - y0);
        }

        long columns() {
            return cellsBetween(x0, x1 - 1);
        }

        Box ledgeOf(int depth) {
            return new Box(x0, y1, 0, x1, y1 + 1, depth);
        }
    }

    private static final class Box {
        int x0;
        int y0;
        int z0;
        int x1;
        int y1;
        int z1;
        boolean present = true;

        Box(int x0, int y0, int z0, int x1, int y1, int z1) {
            this.x0 = x0;
            this.y0 = y0;
            this.z0 = z0;
            this.x1 = x1;
            this.y1 = y1;
            this.z1 = z1;
        }

        static boolean isAllowed(int x0, int y0, int z0, int x1, int y1, int z1) {
            return LEAST_PLACE <= x0 && x0 < x1 && x1 <= MOST_PLACE
                    && LEAST_PLACE <= y0 && y0 < y1 && y1 <= MOST_PLACE
                    && 0 <= z0 && z0 <= z1 && z1 <= MOST_DISTANCE;
        }

        boolean shiftIfAllowed(int x, int y, int z) {
            if (!isAllowed(x0 + x, y0 + y, z0 + z, x1 + x, y1 + y, z1 + z)) {
                return false;
            }
            x0 += x;
            y0 += y;
            z0 += z;
            x1 += x;
            y1 += y;
            z1 += z;
            return true;
        }

        // The points of the box that throw their shadow on the row's middle line lie at the distances
        // from near to far. Counted in parts of 1 / scale these bounds are whole numbers. As the
        // distance goes from one to the other, the shadow on the line slides without a gap.
        long shadeThrownOnRow(int y, Hour hour, int width) {
            int twiceMiddle = 2 * y + 1;
            if (!present || !hour.hasSun() || (hour.sunY == 0 && !spansLine(twiceMiddle))) {
                return 0L;
            }
            int scale = hour.sunY == 0 ? 1 : 2 * Math.abs(hour.sunY);
            int near = nearest(twiceMiddle, hour, scale);
            int far = farthest(twiceMiddle, hour, scale);
            if (near > far) {
                return 0L;
            }
            // A middle x + 1/2 lies between x0 + slide / unit and x1 + slide / unit, both ends counted.
            int unit = scale * hour.sunZ;
            int leastSlide = Math.min(near * hour.sunX, far * hour.sunX);
            int mostSlide = Math.max(near * hour.sunX, far * hour.sunX);
            int first = -floorOver(unit - 2 * (x0 * unit + leastSlide), 2 * unit);
            int last = floorOver(2 * (x1 * unit + mostSlide) - unit, 2 * unit);
            return cellsBetween(Math.max(first, 0), Math.min(last, width - 1));
        }

        private boolean spansLine(int twiceMiddle) {
            return 2 * y0 <= twiceMiddle && twiceMiddle <= 2 * y1;
        }

        private int nearest(int twiceMiddle, Hour hour, int scale) {
            int near = z0 * scale;
            if (hour.sunY > 0) {
                near = Math.max(near, (twiceMiddle - 2 * y1) * hour.sunZ);
            } else if (hour.sunY < 0) {
                near = Math.max(near, (2 * y0 - twiceMiddle) * hour.sunZ);
            }
            return near;
        }

        private int farthest(int twiceMiddle, Hour hour, int scale) {
            int far = z1 * scale;
            if (hour.sunY > 0) {
                far = Math.min(far, (twiceMiddle - 2 * y0) * hour.sunZ);
            } else if (hour.sunY < 0) {
                far = Math.min(far, (2 * y1 - twiceMiddle) * hour.sunZ);
            }
            return far;
        }

        private static int floorOver(int number, int divisor) {
            return divisor > 0 ? Math.floorDiv(number, divisor) : 0;
        }
    }
}
