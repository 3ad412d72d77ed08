import java.lang.reflect.Constructor;
import java.lang.reflect.Field;
import java.lang.reflect.Method;
import java.lang.reflect.Modifier;
import java.util.Arrays;
import java.util.TreeSet;

/** Each promise of the document by itself: ordinary inputs, the edges that it names, wrong inputs. */
public final class PromiseTests {
    private static final int NONE = SunShadows.NONE;
    private static final int[] FAR_OUT = {Integer.MIN_VALUE, Integer.MAX_VALUE};

    private static int wrong = 0;
    private static int done = 0;

    private interface Call {
        Object answer();
    }

    public static void main(String[] args) {
        face();
        newObject();
        box();
        boxEdges();
        move();
        there();
        sun();
        light();
        window();
        shadow();
        shadowEdges();
        shadows();
        dark();
        cell();
        lit();
        brightest();
        ledge();
        deep();
        worst();
        throwsChangeNothing();
        System.out.println(done + " answers looked at, " + wrong + " not as due");
        if (wrong != 0) {
            System.exit(1);
        }
    }

    private static void due(String what, Object want, Call call) {
        Object got;
        try {
            got = call.answer();
        } catch (RuntimeException e) {
            got = e.getClass();
        }
        done++;
        if (!want.equals(got)) {
            wrong++;
            System.out.println(what + " answered " + got + ", due is " + want);
        }
    }

    private static void argument(String what, Call call) {
        due(what, IllegalArgumentException.class, call);
    }

    private static void state(String what, Call call) {
        due(what, IllegalStateException.class, call);
    }

    /** A wall with the sun straight before it in hour 0: a shadow is as large as its box. */
    private static SunShadows straight(int w, int h) {
        SunShadows s = new SunShadows(w, h);
        s.sun(0, 0, 0, 1);
        return s;
    }

    private static Object did(Runnable call) {
        call.run();
        return "done";
    }

    private static void face() {
        due("NONE", -1, () -> SunShadows.NONE);
        TreeSet<String> got = new TreeSet<>();
        for (Method m : SunShadows.class.getDeclaredMethods()) {
            if (!Modifier.isPrivate(m.getModifiers())) {
                got.add(m.getReturnType() + " " + m.getName() + Arrays.toString(m.getParameterTypes())
                        + Arrays.toString(m.getExceptionTypes()).replaceAll("class java.lang.|Exception", ""));
            }
        }
        for (Constructor<?> c : SunShadows.class.getDeclaredConstructors()) {
            got.add("new" + Arrays.toString(c.getParameterTypes()));
        }
        for (Field f : SunShadows.class.getDeclaredFields()) {
            if (!Modifier.isPrivate(f.getModifiers())) {
                got.add("field " + f.getName());
            }
        }
        TreeSet<String> want = new TreeSet<>(Arrays.asList(
                "field NONE",
                "new[int, int]",
                "int box[int, int, int, int, int, int][IllegalArgument, IllegalState]",
                "boolean move[int, int, int, int][IllegalArgument]",
                "boolean there[int, boolean][IllegalArgument]",
                "void sun[int, int, int, int][IllegalArgument]",
                "int light[int, int][IllegalArgument]",
                "int window[int, int, int, int][IllegalArgument, IllegalState]",
                "boolean shadow[int, int, int][IllegalArgument, IllegalState]",
                "int shadows[int, int][IllegalArgument, IllegalState]",
                "int dark[int, int][IllegalArgument, IllegalState]",
                "int cell[int, int][IllegalArgument, IllegalState]",
                "int lit[int, int][IllegalArgument]",
                "int brightest[int][IllegalArgument]",
                "int ledge[int, int, int][IllegalArgument, IllegalState]",
                "int deep[int, int, int][IllegalArgument, IllegalState]",
                "int worst[int][IllegalArgument]"));
        due("the face", want, () -> got);
        due("the class is public and final", Modifier.PUBLIC | Modifier.FINAL,
                () -> SunShadows.class.getModifiers());
    }

    private static void newObject() {
        int[][] sizes = {{1, 1, 1, 1}, {7, 3, 7, 3}, {60, 59, 60, 59}, {61, 60, 60, 60}, {0, 0, 1, 1}, {-1, 61, 1, 60},
            {Integer.MIN_VALUE, Integer.MAX_VALUE, 1, 60}, {Integer.MAX_VALUE, Integer.MIN_VALUE, 60, 1}};
        for (int[] z : sizes) {
            SunShadows s = straight(z[0], z[1]);
            String what = "wall " + z[0] + " by " + z[1];
            due(what + ", last cell", false, () -> s.shadow(z[2] - 1, z[3] - 1, 0));
            argument(what + ", cell beyond x", () -> s.shadow(z[2], 0, 0));
            argument(what + ", cell beyond y", () -> s.shadow(0, z[3], 0));
            due(what + ", no shadow", 0, () -> s.shadows(NONE, 0));
            s.box(-100, -100, 0, 200, 200, 0);
            due(what + ", all in shadow", z[2] * z[3], () -> s.shadows(NONE, 0));
        }
        SunShadows s = new SunShadows(5, 5);
        argument("no box", () -> s.there(0, true));
        argument("no window", () -> s.lit(0, 0));
        for (int hour = 0; hour < 24; hour++) {
            int at = hour;
            state("no sun in hour " + at, () -> s.shadow(0, 0, at));
            due("no light in hour " + at, 0, () -> s.light(at, 0));
        }
    }

    private static void box() {
        SunShadows s = straight(20, 20);
        for (int i = 0; i < 10; i++) {
            int number = i;
            due("box " + i, number, () -> s.box(number, number, 0, number + 1, number + 2, number));
            due("shadow of box " + i, 2, () -> s.shadows(number, 0));
        }
        argument("box 11, out of bounds", () -> s.box(0, 0, 0, 0, 1, 1));
        state("box 11", () -> s.box(0, 0, 0, 1, 1, 1));
        due("there are 10 boxes still", 20, () -> s.shadows(NONE, 0));
        s.there(3, false);
        state("a box that is not there keeps its place", () -> s.box(0, 0, 0, 1, 1, 1));
    }

    private static void boxEdges() {
        SunShadows s = straight(20, 20);
        int[] whole = {-100, -100, 0, 200, 200, 100};
        due("the largest box", 0, () -> s.box(-100, -100, 0, 200, 200, 100));
        due("a flat box", 1, () -> s.box(-100, -100, 100, -99, -99, 100));
        due("a far box", 2, () -> s.box(199, 199, 0, 200, 200, 0));
        int[][] out = {{-101, 201}, {-101, 201}, {-1, 101}, {-101, 201}, {-101, 201}, {-1, 101}};
        for (int i = 0; i < 6; i++) {
            for (int value : new int[] {out[i][0], out[i][1], FAR_OUT[0], FAR_OUT[1]}) {
                int[] b = whole.clone();
                b[i] = value;
                argument("box " + Arrays.toString(b), () -> s.box(b[0], b[1], b[2], b[3], b[4], b[5]));
            }
        }
        argument("no width", () -> s.box(3, 0, 0, 3, 1, 1));
        argument("turned width", () -> s.box(4, 0, 0, 3, 1, 1));
        argument("no height", () -> s.box(0, 3, 0, 1, 3, 1));
        argument("turned height", () -> s.box(0, 4, 0, 1, 3, 1));
        argument("turned depth", () -> s.box(0, 0, 2, 1, 1, 1));
        due("the next number", 3, () -> s.box(0, 0, 1, 1, 1, 1));
    }

    private static void move() {
        SunShadows s = straight(10, 10);
        s.box(1, 2, 3, 3, 4, 5);
        due("move", true, () -> s.move(0, 4, -1, 2));
        due("moved x and y", 105, () -> s.cell(0, 0));
        due("moved as a whole", 4, () -> s.shadows(0, 0));
        due("moved y1", 206, () -> s.cell(3, 0));
        due("not moved", true, () -> s.move(0, 0, 0, 0));
        // now x 5 .. 7, y 1 .. 3, z 5 .. 7
        int[][] no = {{-106, 0, 0}, {194, 0, 0}, {0, -102, 0}, {0, 198, 0}, {0, 0, -6}, {0, 0, 94}, {300, 300, 300},
            {-300, -300, -300}, {1, 1, 94}};
        for (int[] m : no) {
            due("move out by " + Arrays.toString(m), false, () -> s.move(0, m[0], m[1], m[2]));
        }
        due("it stays", 105, () -> s.cell(0, 0));
        int[][] yes = {{-105, 0, 0}, {298, 0, 0}, {-193, 0, 0}, {0, -101, 0}, {0, 298, 0}, {0, -197, 0}, {0, 0, -5},
            {0, 0, 98}, {0, 0, -93}};
        for (int[] m : yes) {
            due("move to the edge by " + Arrays.toString(m), true, () -> s.move(0, m[0], m[1], m[2]));
        }
        due("and back", 105, () -> s.cell(0, 0));
        for (int far : new int[] {-301, 301, FAR_OUT[0], FAR_OUT[1]}) {
            argument("move x " + far, () -> s.move(0, far, 0, 0));
            argument("move y " + far, () -> s.move(0, 0, far, 0));
            argument("move z " + far, () -> s.move(0, 0, 0, far));
        }
        for (int number : new int[] {1, NONE, 10, FAR_OUT[0], FAR_OUT[1]}) {
            argument("move box " + number, () -> s.move(number, 0, 0, 0));
        }
        s.there(0, false);
        due("a box that is not there moves too", true, () -> s.move(0, -5, -1, 0));
        s.there(0, true);
        due("and is at its new place", 0, () -> s.cell(0, 0));
        s.sun(1, 1, 0, 1);
        due("its distance has moved along", 5, () -> s.cell(0, 1));
    }

    private static void there() {
        SunShadows s = straight(10, 10);
        s.box(0, 0, 0, 2, 2, 1);
        s.box(1, 1, 0, 3, 3, 1);
        due("two boxes", 7, () -> s.shadows(NONE, 0));
        due("it was there", true, () -> s.there(0, true));
        due("it was there, and goes", true, () -> s.there(0, false));
        due("it was not there", false, () -> s.there(0, false));
        due("one box left", 4, () -> s.shadows(NONE, 0));
        due("no shadow of its own", 0, () -> s.shadows(0, 0));
        due("cell out of its shadow", false, () -> s.shadow(0, 0, 0));
        due("the other keeps its number", 4, () -> s.shadows(1, 0));
        due("a new box gets the next number", 2, () -> s.box(5, 5, 0, 6, 6, 0));
        due("it was not there, and comes", false, () -> s.there(0, true));
        due("three boxes", 8, () -> s.shadows(NONE, 0));
        for (int number : new int[] {3, NONE, 10, FAR_OUT[0], FAR_OUT[1]}) {
            argument("there " + number, () -> s.there(number, true));
        }
    }

    private static void sun() {
        SunShadows s = new SunShadows(10, 10);
        s.box(4, 4, 2, 5, 5, 2);
        due("first hour", "done", () -> did(() -> s.sun(0, 1, 0, 1)));
        due("last hour", "done", () -> did(() -> s.sun(23, 0, -1, 1)));
        due("along x", 406, () -> s.cell(0, 0));
        due("along y", 204, () -> s.cell(0, 23));
        state("another hour has none", () -> s.cell(0, 1));
        s.sun(0, -6, 4, 2);
        due("changed; it is X / Z that counts", -1, () -> s.cell(0, 0));
        s.sun(0, -4, 4, 2);
        due("changed again", 800, () -> s.cell(0, 0));
        s.sun(0, 5, 5, 0);
        state("Z 0: no sun", () -> s.cell(0, 0));
        due("the edges of the direction", "done", () -> did(() -> {
            s.sun(1, -300, 300, 1);
            s.sun(1, 300, -300, 100);
        }));
        for (int hour : new int[] {-1, 24, FAR_OUT[0], FAR_OUT[1]}) {
            argument("sun in hour " + hour, () -> did(() -> s.sun(hour, 0, 0, 1)));
        }
        for (int far : new int[] {-301, 301, FAR_OUT[0], FAR_OUT[1]}) {
            argument("sun X " + far, () -> did(() -> s.sun(2, far, 0, 1)));
            argument("sun Y " + far, () -> did(() -> s.sun(2, 0, far, 1)));
            argument("sun X " + far + " without sun", () -> did(() -> s.sun(23, far, 0, 0)));
        }
        for (int far : new int[] {-1, 101, FAR_OUT[0], FAR_OUT[1]}) {
            argument("sun Z " + far, () -> did(() -> s.sun(2, 0, 0, far)));
        }
        state("wrong suns change nothing", () -> s.cell(0, 2));
        due("wrong suns take none away", 204, () -> s.cell(0, 23));
    }

    private static void light() {
        SunShadows s = straight(4, 4);
        s.window(0, 0, 2, 2);
        due("first light", 0, () -> s.light(0, 1000));
        due("it was", 1000, () -> s.light(0, 7));
        due("it is", 28, () -> s.lit(0, 0));
        due("to 0", 7, () -> s.light(0, 0));
        due("last hour", 0, () -> s.light(23, 3));
        due("hours have their own", 0, () -> s.light(0, 1));
        for (int amount : new int[] {-1, 1001, FAR_OUT[0], FAR_OUT[1]}) {
            argument("light " + amount, () -> s.light(0, amount));
        }
        for (int hour : new int[] {-1, 24, FAR_OUT[0], FAR_OUT[1]}) {
            argument("light in hour " + hour, () -> s.light(hour, 1));
        }
        due("wrong lights change nothing", 1, () -> s.light(0, 2));
        due("an hour without sun keeps its light", 3, () -> s.light(23, 3));
    }

    private static void window() {
        SunShadows s = straight(6, 4);
        s.light(0, 1);
        due("the whole wall", 0, () -> s.window(0, 0, 6, 4));
        due("one cell", 1, () -> s.window(5, 3, 6, 4));
        due("on another", 2, () -> s.window(5, 3, 6, 4));
        due("a strip", 3, () -> s.window(1, 2, 4, 3));
        int[] cells = {24, 1, 1, 3};
        for (int i = 0; i < cells.length; i++) {
            int number = i;
            due("cells of window " + i, cells[i], () -> s.lit(number, 0));
        }
        int[][] no = {{-1, 0, 1, 1}, {0, -1, 1, 1}, {0, 0, 7, 1}, {0, 0, 1, 5}, {2, 0, 2, 1}, {0, 2, 1, 2}, {3, 0, 2, 1},
            {0, 3, 1, 2}, {6, 0, 7, 1}, {6, 0, 6, 1}, {0, 0, 0, 0}, {FAR_OUT[0], 0, 1, 1}, {0, 0, FAR_OUT[1], 1},
            {0, 0, 1, FAR_OUT[1]}, {0, FAR_OUT[0], 1, 1}, {FAR_OUT[1], 0, FAR_OUT[0], 1}};
        for (int[] v : no) {
            argument("window " + Arrays.toString(v), () -> s.window(v[0], v[1], v[2], v[3]));
        }
        for (int i = 4; i < 10; i++) {
            int number = i;
            due("window " + i, number, () -> s.window(0, 0, 1, 1));
        }
        argument("window 11, beyond the wall", () -> s.window(0, 0, 7, 1));
        state("window 11", () -> s.window(0, 0, 1, 1));
        due("the last window", 1, () -> s.lit(9, 0));
    }

    private static void shadow() {
        SunShadows s = new SunShadows(10, 8);
        s.box(2, 3, 0, 4, 4, 0);
        s.sun(0, 1, 1, 1);
        due("in shadow, left", true, () -> s.shadow(2, 3, 0));
        due("in shadow, right", true, () -> s.shadow(3, 3, 0));
        due("left of it", false, () -> s.shadow(1, 3, 0));
        due("right of it", false, () -> s.shadow(4, 3, 0));
        due("below it", false, () -> s.shadow(2, 2, 0));
        due("above it", false, () -> s.shadow(2, 4, 0));
        s.box(8, 6, 1, 10, 8, 1);
        due("the shadow of a second box", false, () -> s.shadow(8, 7, 0));
        due("slid along x and y", true, () -> s.shadow(9, 7, 0));
        argument("cell beyond x", () -> s.shadow(10, 0, 0));
        argument("cell beyond y", () -> s.shadow(0, 8, 0));
        argument("cell before x", () -> s.shadow(-1, 0, 0));
        argument("cell before y", () -> s.shadow(0, -1, 0));
        for (int far : FAR_OUT) {
            argument("cell x " + far, () -> s.shadow(far, 0, 0));
            argument("cell y " + far, () -> s.shadow(0, far, 0));
        }
        for (int hour : new int[] {-1, 24, FAR_OUT[0], FAR_OUT[1]}) {
            argument("shadow in hour " + hour, () -> s.shadow(0, 0, hour));
        }
        state("no sun", () -> s.shadow(0, 0, 1));
        argument("no such cell goes before no sun", () -> s.shadow(10, 0, 1));
        argument("no such row goes before no sun", () -> s.shadow(0, 8, 1));
    }

    // Boxes hold their edges, so a middle that lies on the edge of a shadow is in shadow.
    private static void shadowEdges() {
        SunShadows s = new SunShadows(10, 10);
        s.box(3, 3, 1, 4, 4, 1);
        int[][] suns = {{1, 1, 2, 4}, {-1, -1, 2, 4}, {1, 0, 2, 2}, {0, -1, 2, 2}, {49, 49, 100, 1}, {51, -51, 100, 1},
            {50, -50, 100, 4}, {51, 50, 100, 2}, {-49, -50, 100, 2}};
        for (int[] d : suns) {
            s.sun(0, d[0], d[1], d[2]);
            due("middles on the edge, sun " + Arrays.toString(d), d[3], () -> s.shadows(0, 0));
        }
        // From distance 1 to 2 the shadow slides by 3: it does not leave cells out.
        SunShadows t = new SunShadows(20, 20);
        t.box(0, 0, 1, 1, 1, 2);
        t.sun(0, 3, 0, 1);
        due("a shadow without gaps", 4, () -> t.shadows(0, 0));
        due("it begins at", 3, () -> t.cell(0, 0));
        due("it ends at", 6, () -> t.cell(3, 0));
        // One point of the sliding square meets the middle: the corner of the box.
        t.sun(1, 3, -3, 1);
        due("it slides off the wall", 0, () -> t.shadows(0, 1));
        t.sun(2, 3, 3, 1);
        due("along the diagonal", 10, () -> t.shadows(0, 2));
        due("a corner meets a middle", true, () -> t.shadow(4, 3, 2));
        due("and no further", false, () -> t.shadow(5, 3, 2));
        t.sun(3, 300, 300, 1);
        due("far away", 0, () -> t.shadows(0, 3));
        // Steep: distances of less than 1 / 300 count.
        SunShadows u = new SunShadows(60, 60);
        u.box(-100, 0, 0, -99, 1, 100);
        u.sun(0, 300, 0, 1);
        due("a thin slide over the whole row", 60, () -> u.shadows(0, 0));
        u.sun(0, 300, 1, 1);
        // Row 0 up to the distance 1/2, that is to x = -99 + 150; row 1 from there on, from x = -100 + 150.
        due("with a slight rise", 51 + 10, () -> u.shadows(0, 0));
        due("the last in row 0", 50, () -> u.cell(50, 0));
        due("the first in row 1", 150, () -> u.cell(51, 0));
        u.sun(0, 300, 299, 1);
        due("with a steep rise it passes above", 0, () -> u.shadows(0, 0));
    }

    private static void shadows() {
        SunShadows s = straight(10, 10);
        due("no boxes", 0, () -> s.shadows(NONE, 0));
        argument("no box 0", () -> s.shadows(0, 0));
        s.box(0, 0, 0, 3, 3, 0);
        s.box(2, 2, 0, 5, 4, 0);
        s.box(-50, 5, 0, 150, 6, 0);
        due("box 0", 9, () -> s.shadows(0, 0));
        due("box 1", 6, () -> s.shadows(1, 0));
        due("box 2, cut at the wall", 10, () -> s.shadows(2, 0));
        due("all, each cell once", 24, () -> s.shadows(NONE, 0));
        for (int number : new int[] {-2, 3, 10, FAR_OUT[0], FAR_OUT[1]}) {
            argument("shadows of box " + number, () -> s.shadows(number, 0));
            argument("shadows of box " + number + " without sun", () -> s.shadows(number, 1));
        }
        for (int hour : new int[] {-1, 24, FAR_OUT[0], FAR_OUT[1]}) {
            argument("shadows in hour " + hour, () -> s.shadows(0, hour));
        }
        state("no sun, one box", () -> s.shadows(0, 1));
        state("no sun, all boxes", () -> s.shadows(NONE, 1));
        s.there(0, false);
        state("no sun, a box that is not there", () -> s.shadows(0, 1));
    }

    private static void dark() {
        SunShadows s = straight(10, 10);
        s.window(0, 0, 10, 10);
        s.window(2, 2, 4, 5);
        s.window(3, 3, 8, 4);
        due("no boxes", 0, () -> s.dark(0, 0));
        s.box(3, 0, 0, 6, 4, 0);
        s.box(3, 3, 0, 4, 5, 0);
        due("whole wall", 13, () -> s.dark(0, 0));
        due("part of a window, each cell once", 3, () -> s.dark(1, 0));
        due("a window on another", 3, () -> s.dark(2, 0));
        s.there(1, false);
        due("less boxes", 2, () -> s.dark(1, 0));
        for (int number : new int[] {NONE, 3, 10, FAR_OUT[0], FAR_OUT[1]}) {
            argument("dark of window " + number, () -> s.dark(number, 0));
            argument("dark of window " + number + " without sun", () -> s.dark(number, 1));
        }
        for (int hour : new int[] {-1, 24, FAR_OUT[0], FAR_OUT[1]}) {
            argument("dark in hour " + hour, () -> s.dark(0, hour));
        }
        state("no sun", () -> s.dark(0, 1));
    }

    private static void cell() {
        SunShadows s = straight(60, 60);
        due("none", NONE, () -> s.cell(0, 0));
        s.box(58, 58, 0, 70, 70, 0);
        s.box(5, 2, 0, 7, 3, 0);
        s.box(0, 2, 0, 1, 4, 0);
        int[] cells = {200, 205, 206, 300, 5858, 5859, 5958, 5959, NONE};
        for (int i = 0; i < cells.length; i++) {
            int place = i;
            due("cell " + i, cells[i], () -> s.cell(place, 0));
        }
        due("cell far behind", NONE, () -> s.cell(Integer.MAX_VALUE, 0));
        argument("cell -1", () -> s.cell(-1, 0));
        argument("cell far before", () -> s.cell(Integer.MIN_VALUE, 0));
        argument("cell -1 without sun", () -> s.cell(-1, 1));
        for (int hour : new int[] {-1, 24, FAR_OUT[0], FAR_OUT[1]}) {
            argument("cell in hour " + hour, () -> s.cell(0, hour));
        }
        state("no sun", () -> s.cell(0, 1));
        s.box(-100, -100, 0, 200, 200, 0);
        due("first of all", 0, () -> s.cell(0, 0));
        due("last of all", 5959, () -> s.cell(3599, 0));
        due("behind all", NONE, () -> s.cell(3600, 0));
    }

    private static void lit() {
        SunShadows s = straight(10, 10);
        s.window(0, 0, 10, 10);
        s.window(2, 2, 4, 4);
        s.light(0, 7);
        due("no boxes", 700, () -> s.lit(0, 0));
        s.box(3, 3, 0, 9, 9, 0);
        due("with a box", 448, () -> s.lit(0, 0));
        due("a window with a box", 21, () -> s.lit(1, 0));
        s.light(1, 1000);
        due("light without sun", 0, () -> s.lit(0, 1));
        due("day, one hour with sun", 448, () -> s.lit(0, NONE));
        s.sun(1, 0, -300, 1);
        due("another hour", 64000, () -> s.lit(0, 1));
        s.sun(23, 0, 0, 5);
        s.light(23, 2);
        due("day, three hours", 448 + 64000 + 128, () -> s.lit(0, NONE));
        due("day of a window", 21 + 3000 + 6, () -> s.lit(1, NONE));
        for (int number : new int[] {NONE, 2, 10, FAR_OUT[0], FAR_OUT[1]}) {
            argument("lit of window " + number, () -> s.lit(number, 0));
            argument("day of window " + number, () -> s.lit(number, NONE));
        }
        for (int hour : new int[] {-2, 24, FAR_OUT[0], FAR_OUT[1]}) {
            argument("lit in hour " + hour, () -> s.lit(0, hour));
        }
        SunShadows most = new SunShadows(60, 60);
        most.window(0, 0, 60, 60);
        for (int hour = 0; hour < 24; hour++) {
            most.sun(hour, 0, 0, 100);
            most.light(hour, 1000);
        }
        due("the most light", 86400000, () -> most.lit(0, NONE));
    }

    private static void brightest() {
        SunShadows s = new SunShadows(10, 10);
        s.window(0, 0, 1, 1);
        s.window(0, 0, 10, 10);
        due("no light", NONE, () -> s.brightest(0));
        s.light(2, 1000);
        due("light without sun", NONE, () -> s.brightest(0));
        s.sun(3, 0, 0, 1);
        due("sun without light", NONE, () -> s.brightest(0));
        s.light(3, 5);
        due("one hour", 3, () -> s.brightest(0));
        s.sun(5, 1, 1, 1);
        s.light(5, 5);
        due("of several the first", 3, () -> s.brightest(0));
        s.light(5, 6);
        due("the most", 5, () -> s.brightest(0));
        s.box(0, 0, 1, 5, 5, 1);
        due("a box shades hour 3 alone", 5, () -> s.brightest(0));
        s.box(0, 0, 0, 1, 1, 0);
        due("a window all in shadow", NONE, () -> s.brightest(0));
        due("a larger window", 5, () -> s.brightest(1));
        s.sun(0, 0, 0, 1);
        s.light(0, 900);
        due("the first hour", 0, () -> s.brightest(1));
        s.sun(23, 0, 0, 1);
        s.light(23, 901);
        due("the last hour", 23, () -> s.brightest(1));
        for (int number : new int[] {NONE, 2, 10, FAR_OUT[0], FAR_OUT[1]}) {
            argument("brightest of window " + number, () -> s.brightest(number));
        }
    }

    private static void ledge() {
        SunShadows s = new SunShadows(10, 10);
        s.window(2, 2, 6, 8);
        s.window(0, 4, 10, 10);
        s.sun(0, 0, -1, 1);
        // The ledge is over y 8 .. 9 and throws down to 8 - depth.
        for (int depth = 1; depth <= 7; depth++) {
            int deep = depth;
            due("ledge " + depth, 4 * Math.min(depth, 6), () -> s.ledge(0, 0, deep));
        }
        due("the deepest", 24, () -> s.ledge(0, 0, 100));
        due("over the wall's top", 20, () -> s.ledge(1, 0, 2));
        due("it is gone again", 0, () -> s.dark(0, 0));
        s.sun(1, 1, -1, 1);
        due("slanting", 4, () -> s.ledge(0, 1, 1));
        due("slanting, deeper", 4 + 3, () -> s.ledge(0, 1, 2));
        s.sun(2, 0, 1, 1);
        due("the sun from below", 0, () -> s.ledge(0, 2, 100));
        s.sun(3, 0, 0, 1);
        due("the sun straight before it", 0, () -> s.ledge(0, 3, 100));
        s.box(0, 0, 0, 10, 4, 0);
        due("boxes count too", 8 + 8, () -> s.ledge(0, 0, 2));
        due("each cell once", 24, () -> s.ledge(0, 0, 6));
        for (int depth : new int[] {0, -1, 101, FAR_OUT[0], FAR_OUT[1]}) {
            argument("ledge " + depth, () -> s.ledge(0, 0, depth));
            argument("ledge " + depth + " without sun", () -> s.ledge(0, 9, depth));
        }
        for (int number : new int[] {NONE, 2, 10, FAR_OUT[0], FAR_OUT[1]}) {
            argument("ledge of window " + number, () -> s.ledge(number, 0, 1));
            argument("ledge of window " + number + " without sun", () -> s.ledge(number, 9, 1));
        }
        for (int hour : new int[] {-1, 24, FAR_OUT[0], FAR_OUT[1]}) {
            argument("ledge in hour " + hour, () -> s.ledge(0, hour, 1));
        }
        state("no sun", () -> s.ledge(0, 9, 1));
        while (s.box(0, 9, 0, 1, 10, 0) < 9) {
            done++;
        }
        due("a ledge beside ten boxes", 16, () -> s.ledge(0, 0, 2));
    }

    private static void deep() {
        SunShadows s = new SunShadows(10, 10);
        s.window(2, 2, 6, 8);
        s.sun(0, 0, -1, 1);
        int[][] depths = {{0, 0}, {1, 1}, {4, 1}, {5, 2}, {8, 2}, {9, 3}, {24, 6}, {25, NONE}, {Integer.MAX_VALUE, NONE}};
        for (int[] d : depths) {
            due("depth for " + d[0], d[1], () -> s.deep(0, 0, d[0]));
        }
        // The middles of the rows lie 1/2, 3/2 .. 11/2 below the ledge: so far must depth * Y / Z reach.
        int[][] bySun = {{-1, 18, 4, 9}, {-1, 18, 5, 27}, {-1, 18, 24, 99}, {-11, 100, 24, 50}, {-55, 10, 24, 1},
            {-1, 100, 4, 50}, {-1, 100, 5, NONE}, {-1, 67, 4, 34}, {-1, 67, 5, NONE}, {-1, 66, 8, 99}, {-1, 66, 9, NONE},
            {-300, 1, 24, 1}, {0, 1, 1, NONE}, {300, 1, 1, NONE}};
        for (int[] d : bySun) {
            s.sun(1, 0, d[0], d[1]);
            due("depth for Y, Z, cells " + d[0] + ", " + d[1] + ", " + d[2], d[3], () -> s.deep(0, 1, d[2]));
        }
        SunShadows high = new SunShadows(1, 14);
        high.window(0, 1, 1, 14);
        high.window(0, 0, 1, 14);
        high.sun(0, 0, -1, 8);
        due("the deepest ledge does", 100, () -> high.deep(0, 0, 13));
        due("the deepest ledge does not", NONE, () -> high.deep(1, 0, 14));
        s.box(0, 0, 0, 10, 4, 0);
        due("0: the boxes do", 0, () -> s.deep(0, 0, 8));
        due("boxes and a ledge", 1, () -> s.deep(0, 0, 9));
        due("boxes and a deep ledge", 4, () -> s.deep(0, 0, 24));
        due("no ledge stays", 8, () -> s.dark(0, 0));
        argument("cells -1", () -> s.deep(0, 0, -1));
        argument("cells far below", () -> s.deep(0, 0, Integer.MIN_VALUE));
        argument("cells -1 without sun", () -> s.deep(0, 9, -1));
        for (int number : new int[] {NONE, 1, 10, FAR_OUT[0], FAR_OUT[1]}) {
            argument("deep of window " + number, () -> s.deep(number, 0, 1));
            argument("deep of window " + number + " without sun", () -> s.deep(number, 9, 1));
        }
        for (int hour : new int[] {-1, 24, FAR_OUT[0], FAR_OUT[1]}) {
            argument("deep in hour " + hour, () -> s.deep(0, hour, 1));
        }
        state("no sun", () -> s.deep(0, 9, 1));
        state("no sun, 0 cells", () -> s.deep(0, 9, 0));
    }

    private static void worst() {
        SunShadows s = straight(10, 10);
        s.window(0, 0, 4, 4);
        s.window(6, 6, 10, 10);
        due("no boxes", NONE, () -> s.worst(0));
        s.box(0, 0, 0, 2, 1, 0);
        due("no light to take", NONE, () -> s.worst(0));
        s.light(0, 10);
        due("one box", 0, () -> s.worst(0));
        due("none before the other window", NONE, () -> s.worst(1));
        s.box(0, 2, 0, 2, 3, 0);
        due("of several the first", 0, () -> s.worst(0));
        s.box(0, 3, 0, 3, 4, 0);
        due("the most", 2, () -> s.worst(0));
        s.box(0, 3, 0, 3, 4, 1);
        due("two on one another take nothing", 0, () -> s.worst(0));
        s.there(3, false);
        due("one of them alone", 2, () -> s.worst(0));
        s.there(2, false);
        s.box(-50, -50, 0, 50, 50, 0);
        due("a box before all takes what the others leave", 4, () -> s.worst(0));
        s.box(-50, -50, 0, 50, 50, 0);
        due("two before all", NONE, () -> s.worst(0));
        s.there(4, false);
        s.there(5, false);
        s.light(1, 1000);
        due("an hour without sun takes nothing", 0, () -> s.worst(0));
        // In hour 1 only box 6 is before the window: its one cell counts more than two in hour 0.
        s.box(0, 5, 2, 1, 6, 2);
        s.sun(1, 0, -1, 1);
        s.there(0, false);
        s.there(1, false);
        due("over the day", 6, () -> s.worst(0));
        s.there(0, true);
        s.move(0, 0, 0, 1);
        s.move(0, 0, 4, 0);
        s.light(1, 4);
        due("two cells in hour 1 and none in hour 0", 0, () -> s.worst(0));
        s.box(9, 9, 0, 10, 10, 0);
        due("the other window", 7, () -> s.worst(1));
        for (int number : new int[] {NONE, 2, 10, FAR_OUT[0], FAR_OUT[1]}) {
            argument("worst of window " + number, () -> s.worst(number));
        }
        SunShadows round = straight(5, 5);
        round.window(1, 1, 3, 3);
        round.light(0, 1);
        int[][] sides = {{0, 0, 5, 1}, {0, 3, 5, 4}, {0, 0, 1, 5}, {3, 0, 4, 5}};
        for (int[] b : sides) {
            round.box(b[0], b[1], 0, b[2], b[3], 0);
        }
        due("boxes round the window take nothing", NONE, () -> round.worst(0));
        SunShadows ten = straight(10, 1);
        ten.window(0, 0, 10, 1);
        ten.light(0, 1);
        for (int i = 0; i < 9; i++) {
            ten.box(i, 0, 0, i + 1, 1, 0);
        }
        due("all take one", 0, () -> ten.worst(0));
        ten.box(8, 0, 0, 12, 1, 0);
        due("box 9 takes one alone", 0, () -> ten.worst(0));
        ten.there(8, false);
        due("box 9 takes two", 9, () -> ten.worst(0));
        due("asked again", 9, () -> ten.worst(0));
    }

    private static void throwsChangeNothing() {
        SunShadows s = straight(5, 5);
        s.window(0, 0, 5, 5);
        s.light(0, 3);
        s.box(1, 1, 1, 2, 2, 2);
        argument("wrong move", () -> s.move(0, 1, 1, 301));
        argument("wrong sun", () -> did(() -> s.sun(0, 1, 1, 101)));
        argument("wrong light", () -> s.light(0, 1001));
        argument("wrong box", () -> s.box(0, 0, 0, 1, 1, 101));
        argument("wrong window", () -> s.window(0, 0, 1, 6));
        due("the same cell", 101, () -> s.cell(0, 0));
        due("the same count", 1, () -> s.shadows(NONE, 0));
        due("the same light", 72, () -> s.lit(0, NONE));
        due("the next box", 1, () -> s.box(0, 0, 0, 1, 1, 1));
        due("the next window", 1, () -> s.window(0, 0, 1, 1));
    }
}
