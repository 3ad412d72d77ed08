import java.io.IOException;
import java.lang.annotation.Retention;
import java.lang.annotation.RetentionPolicy;
import java.lang.reflect.InvocationTargetException;
import java.lang.reflect.Method;
import java.nio.file.Files;
import java.nio.file.Path;
import java.util.ArrayList;
import java.util.Comparator;
import java.util.List;

/**
 * One test for each sentence of the document that names a boundary case: too small, too large, empty,
 * full, a refused call. A test bears the heading it belongs to in its name, and the words it guards in
 * its mark; the words are looked up in the document, so that none of them is made up.
 */
public final class BoundaryTests {
    private static final int NONE = SunShadows.NONE;
    private static final int LOWEST = Integer.MIN_VALUE;
    private static final int HIGHEST = Integer.MAX_VALUE;
    private static final int NO_SUN = 9;
    private static final Path DOCUMENT = Path.of("../shared/DOC.md");

    private static Method current;
    private static int wrong = 0;
    private static int answers = 0;

    /** The heading of the document that a test belongs to, and the words that it guards. */
    @Retention(RetentionPolicy.RUNTIME)
    private @interface Says {
        String under();

        String words();
    }

    private interface Call {
        Object answer();
    }

    private interface Act {
        void run();
    }

    private interface Refused {
        void on(SunShadows s);
    }

    public static void main(String[] args) throws IOException, IllegalAccessException {
        List<Method> tests = new ArrayList<>();
        for (Method method : BoundaryTests.class.getDeclaredMethods()) {
            if (method.isAnnotationPresent(Says.class)) {
                tests.add(method);
            }
        }
        tests.sort(Comparator.comparing(Method::getName));
        for (Method test : tests) {
            run(test);
        }
        lookUpWords(tests);
        System.out.println(tests.size() + " sentences, " + answers + " answers looked at, " + wrong + " not as due");
        if (wrong != 0) {
            System.exit(1);
        }
    }

    private static void run(Method test) throws IllegalAccessException {
        current = test;
        int before = answers;
        try {
            test.invoke(null);
        } catch (InvocationTargetException e) {
            tell("the test ended with " + e.getCause());
        }
        if (answers == before) {
            tell("the test has looked at no answer");
        }
    }

    private static void lookUpWords(List<Method> tests) throws IOException {
        if (!Files.isReadable(DOCUMENT)) {
            System.out.println("no " + DOCUMENT + ": the words of the tests were not looked up");
            return;
        }
        String document = Files.readString(DOCUMENT);
        for (Method test : tests) {
            current = test;
            Says says = test.getAnnotation(Says.class);
            int start = document.indexOf("\n## " + says.under());
            int end = start < 0 ? -1 : document.indexOf("\n## ", start + 1);
            String part = start < 0 ? "" : end < 0 ? document.substring(start) : document.substring(start, end);
            if (!part.contains(says.words())) {
                tell("the document does not say that there");
            }
        }
    }

    private static void tell(String what) {
        wrong++;
        Says says = current.getAnnotation(Says.class);
        System.out.println(current.getName() + " (" + says.under() + ", \"" + says.words() + "\"): " + what);
    }

    private static Object answerOf(Call call) {
        try {
            return call.answer();
        } catch (RuntimeException e) {
            return e.getClass().getSimpleName();
        }
    }

    private static void due(String what, Object want, Call call) {
        Object got = answerOf(call);
        answers++;
        if (!want.equals(got)) {
            tell(what + " answered " + got + ", due is " + want);
        }
    }

    private static void argument(String what, Call call) {
        due(what, "IllegalArgumentException", call);
    }

    private static void state(String what, Call call) {
        due(what, "IllegalStateException", call);
    }

    private static Object did(Act act) {
        act.run();
        return "done";
    }

    /** A wall with the sun straight before it in hour 0: a shadow is as large as its box. */
    private static SunShadows straight(int w, int h) {
        SunShadows s = new SunShadows(w, h);
        s.sun(0, 0, 0, 1);
        return s;
    }

    /** Two boxes, two windows, light in hours 0 and 23 with sun, light in hour 2 without sun. */
    private static SunShadows furnished() {
        SunShadows s = straight(10, 10);
        s.sun(23, 1, -1, 1);
        s.light(0, 3);
        s.light(2, 50);
        s.light(23, 7);
        s.box(1, 1, 1, 3, 3, 2);
        s.box(4, 5, 0, 8, 6, 4);
        s.window(0, 0, 5, 5);
        s.window(3, 2, 9, 8);
        return s;
    }

    /** What can be seen of a furnished object, in some 60 calls. */
    private static String picture(SunShadows s) {
        StringBuilder seen = new StringBuilder();
        for (int hour : new int[] {0, 1, 2, 23}) {
            for (int box = NONE; box <= 2; box++) {
                int number = box;
                seen.append(answerOf(() -> s.shadows(number, hour))).append(' ');
            }
            seen.append(answerOf(() -> s.cell(0, hour))).append(' ').append(answerOf(() -> s.cell(4, hour))).append(' ');
        }
        for (int window = 0; window <= 2; window++) {
            int number = window;
            seen.append(answerOf(() -> s.lit(number, NONE))).append(' ').append(answerOf(() -> s.dark(number, 23)))
                    .append(' ').append(answerOf(() -> s.brightest(number))).append(' ')
                    .append(answerOf(() -> s.worst(number))).append(' ').append(answerOf(() -> s.deep(number, 23, 9)))
                    .append(' ');
        }
        for (int hour : new int[] {0, 1, 2, 23}) {
            seen.append(answerOf(() -> s.light(hour, 0))).append(' ');
        }
        for (int box = 0; box <= 2; box++) {
            int number = box;
            seen.append(answerOf(() -> s.there(number, true))).append(' ');
        }
        seen.append(answerOf(() -> s.box(0, 0, 0, 1, 1, 1))).append(' ').append(answerOf(() -> s.window(0, 0, 1, 1)));
        return seen.toString();
    }

    // ---- What it is

    @Says(under = "What it is", words = "which cells of the wall lie in shadow, exactly")
    private static void about_fractionsAreNotRounded() {
        for (int sunZ = 1; sunZ <= 100; sunZ++) {
            for (int slant : new int[] {1, 7, 33, 49, 99, 300}) {
                SunShadows s = new SunShadows(60, 60);
                s.sun(0, slant, slant, sunZ);
                s.box(0, 0, 0, 1, 1, 0);
                for (int z = 1; z <= 100 && z * slant <= 58 * sunZ; z++) {
                    s.move(0, 0, 0, 1);
                    // The shadow is a square of the size 1: its edges meet middles only if it slid by a half.
                    boolean meets = 2 * z * slant % sunZ == 0 && 2 * z * slant / sunZ % 2 == 1;
                    int first = -Math.floorDiv(sunZ - 2 * z * slant, 2 * sunZ);
                    String what = z + " * " + slant + " / " + sunZ;
                    due("cells of a shadow that slid by " + what, meets ? 4 : 1, () -> s.shadows(0, 0));
                    due("its first cell", 101 * first, () -> s.cell(0, 0));
                }
            }
        }
    }

    @Says(under = "What it is", words = "An object is used for at most 512 calls after it has been made")
    private static void about_answersUpToTheLastOf512Calls() {
        SunShadows s = straight(3, 3);
        s.box(0, 0, 0, 1, 1, 0);
        for (int call = 3; call <= 511; call++) {
            s.move(0, call % 2 == 0 ? -1 : 1, 0, 0);
        }
        due("call 512", 1, () -> s.cell(0, 0));
    }

    // ---- Terms: the wall and its boxes

    @Says(under = "Terms", words = "x from 0 up to W - 1")
    private static void terms_firstAndLastColumn() {
        SunShadows s = straight(7, 4);
        due("column 0", false, () -> s.shadow(0, 2, 0));
        due("column W - 1", false, () -> s.shadow(6, 2, 0));
        argument("column -1", () -> s.shadow(-1, 2, 0));
        argument("column W", () -> s.shadow(7, 2, 0));
    }

    @Says(under = "Terms", words = "y from 0 (below) up to H - 1")
    private static void terms_firstAndLastRow() {
        SunShadows s = straight(7, 4);
        due("row 0", false, () -> s.shadow(5, 0, 0));
        due("row H - 1", false, () -> s.shadow(5, 3, 0));
        argument("row -1", () -> s.shadow(5, -1, 0));
        argument("row H", () -> s.shadow(5, 4, 0));
    }

    @Says(under = "Terms", words = "the MIDDLE of a cell is at x + 1/2, y + 1/2")
    private static void terms_middleOfACell() {
        SunShadows s = new SunShadows(10, 10);
        s.box(2, 5, 1, 4, 7, 1);
        // The slide in hundredths, and the first and the last column or row in shadow.
        int[][] slides = {{49, 0, 1}, {50, 0, 2}, {51, 1, 2}, {-49, 0, 1}, {-50, -1, 1}, {-51, -1, 0}};
        for (int[] d : slides) {
            s.sun(0, d[0], 0, 100);
            for (int x = 0; x < 10; x++) {
                int column = x;
                due("slide " + d[0] + " along x, column " + x, x >= 2 + d[1] && x <= 2 + d[2],
                        () -> s.shadow(column, 5, 0));
            }
            s.sun(0, 0, d[0], 100);
            for (int y = 0; y < 10; y++) {
                int row = y;
                due("slide " + d[0] + " along y, row " + y, y >= 5 + d[1] && y <= 5 + d[2],
                        () -> s.shadow(2, row, 0));
            }
        }
    }

    @Says(under = "Terms", words = "BOXES (0 .. 9, as they come, 10 at most)")
    private static void terms_boxNumbersFromFirstToLast() {
        SunShadows s = straight(10, 1);
        for (int i = 0; i < 10; i++) {
            int number = i;
            argument("box " + i + " before it came", () -> s.shadows(number, 0));
            due("number of box " + i, i, () -> s.box(0, 0, 0, number + 1, 1, 0));
            due("shadow of box " + i, i + 1, () -> s.shadows(number, 0));
        }
        state("an eleventh box", () -> s.box(0, 0, 0, 1, 1, 0));
        argument("there is no box 10", () -> s.shadows(10, 0));
    }

    @Says(under = "Terms", words = "all points with x0 <= x <= x1, y0 <= y <= y1, z0 <= z <= z1")
    private static void terms_boxesHoldTheirEdges() {
        SunShadows flat = new SunShadows(10, 10);
        flat.box(2, 2, 1, 3, 3, 1);
        flat.sun(0, 1, 1, 2);
        due("x0 and y0", true, () -> flat.shadow(2, 2, 0));
        due("x1 and y0", true, () -> flat.shadow(3, 2, 0));
        due("x0 and y1", true, () -> flat.shadow(2, 3, 0));
        due("x1 and y1", true, () -> flat.shadow(3, 3, 0));
        due("no more than these", 4, () -> flat.shadows(0, 0));
        SunShadows thick = new SunShadows(10, 1);
        thick.box(4, 0, 3, 5, 1, 7);
        thick.sun(0, 1, 0, 2);
        due("z0: from x 4 + 3/2", 5, () -> thick.cell(0, 0));
        due("z1: to x 5 + 7/2", 8, () -> thick.cell(3, 0));
        due("and between", 4, () -> thick.shadows(0, 0));
        SunShadows high = new SunShadows(1, 10);
        high.box(0, 4, 3, 1, 5, 7);
        high.sun(0, 0, 1, 2);
        due("z0: from y 4 + 3/2", 500, () -> high.cell(0, 0));
        due("z1: to y 5 + 7/2", 800, () -> high.cell(3, 0));
        due("and between them", 4, () -> high.shadows(0, 0));
    }

    @Says(under = "Terms", words = "all whole numbers, -100 .. 200")
    private static void terms_boxWithinLeastAndMost() {
        SunShadows s = straight(5, 5);
        due("from -100 to 200", 0, () -> s.box(-100, -100, 0, 200, 200, 0));
        due("at -100", 1, () -> s.box(-100, -100, 0, -99, -99, 0));
        due("at 200", 2, () -> s.box(199, 199, 0, 200, 200, 0));
        argument("x0 -101", () -> s.box(-101, 0, 0, 1, 1, 0));
        argument("y0 -101", () -> s.box(0, -101, 0, 1, 1, 0));
        argument("x1 201", () -> s.box(0, 0, 0, 201, 1, 0));
        argument("y1 201", () -> s.box(0, 0, 0, 1, 201, 0));
        argument("x0 and x1 below", () -> s.box(-102, 0, 0, -101, 1, 0));
        argument("y0 and y1 below", () -> s.box(0, -102, 0, 1, -101, 0));
        argument("x0 and x1 above", () -> s.box(201, 0, 0, 202, 1, 0));
        argument("y0 and y1 above", () -> s.box(0, 201, 0, 1, 202, 0));
    }

    @Says(under = "Terms", words = "but z 0 .. 100")
    private static void terms_boxDistanceWithinLeastAndMost() {
        SunShadows s = straight(5, 5);
        due("from 0 to 100", 0, () -> s.box(0, 0, 0, 1, 1, 100));
        due("at 0", 1, () -> s.box(0, 0, 0, 1, 1, 0));
        due("at 100", 2, () -> s.box(0, 0, 100, 1, 1, 100));
        argument("z0 -1", () -> s.box(0, 0, -1, 1, 1, 1));
        argument("z1 101", () -> s.box(0, 0, 1, 1, 1, 101));
        argument("z0 and z1 -1", () -> s.box(0, 0, -1, 1, 1, -1));
        argument("z0 and z1 101", () -> s.box(0, 0, 101, 1, 1, 101));
    }

    @Says(under = "Terms", words = "x0 < x1, y0 < y1, z0 <= z1")
    private static void terms_boxHasWidthAndHeightButMayBeFlat() {
        SunShadows s = straight(5, 5);
        argument("x0 = x1", () -> s.box(2, 0, 0, 2, 1, 1));
        argument("x0 > x1", () -> s.box(3, 0, 0, 2, 1, 1));
        argument("y0 = y1", () -> s.box(0, 2, 0, 1, 2, 1));
        argument("y0 > y1", () -> s.box(0, 3, 0, 1, 2, 1));
        argument("z0 > z1", () -> s.box(0, 0, 2, 1, 1, 1));
        due("z0 = z1, and 1 wide and high", 0, () -> s.box(2, 2, 2, 3, 3, 2));
        due("the flat box throws a shadow", 202, () -> s.cell(0, 0));
    }

    // ---- Terms: hours and windows

    @Says(under = "Terms", words = "HOURS are 0 .. 23")
    private static void terms_firstAndLastHour() {
        SunShadows s = new SunShadows(2, 2);
        s.window(0, 0, 1, 1);
        for (int hour : new int[] {0, 23}) {
            due("sun in hour " + hour, "done", () -> did(() -> s.sun(hour, 0, 0, 1)));
            due("light in hour " + hour, 0, () -> s.light(hour, 5));
            due("shadow in hour " + hour, false, () -> s.shadow(0, 0, hour));
            due("shadows in hour " + hour, 0, () -> s.shadows(NONE, hour));
            due("dark in hour " + hour, 0, () -> s.dark(0, hour));
            due("cell in hour " + hour, NONE, () -> s.cell(0, hour));
            due("lit in hour " + hour, 5, () -> s.lit(0, hour));
            due("ledge in hour " + hour, 0, () -> s.ledge(0, hour, 1));
            due("deep in hour " + hour, 0, () -> s.deep(0, hour, 0));
        }
        for (int hour : new int[] {-1, 24, LOWEST, HIGHEST}) {
            argument("sun in hour " + hour, () -> did(() -> s.sun(hour, 0, 0, 1)));
            argument("light in hour " + hour, () -> s.light(hour, 5));
            argument("shadow in hour " + hour, () -> s.shadow(0, 0, hour));
            argument("shadows in hour " + hour, () -> s.shadows(NONE, hour));
            argument("dark in hour " + hour, () -> s.dark(0, hour));
            argument("cell in hour " + hour, () -> s.cell(0, hour));
            argument("ledge in hour " + hour, () -> s.ledge(0, hour, 1));
            argument("deep in hour " + hour, () -> s.deep(0, hour, 0));
        }
    }

    @Says(under = "Terms", words = "X and Y (-300 .. 300)")
    private static void terms_sunSlantWithinLeastAndMost() {
        SunShadows s = new SunShadows(60, 60);
        s.box(-100, 0, 0, -99, 1, 100);
        s.box(199, 1, 0, 200, 2, 100);
        s.box(2, -100, 0, 3, -99, 100);
        s.box(3, 199, 0, 4, 200, 100);
        int[][] suns = {{300, 0}, {-300, 0}, {0, 300}, {0, -300}};
        for (int i = 0; i < suns.length; i++) {
            int number = i;
            due("sun by " + suns[i][0] + ", " + suns[i][1], "done",
                    () -> did(() -> s.sun(0, suns[number][0], suns[number][1], 1)));
            due("a whole line of the wall in shadow", 60, () -> s.shadows(number, 0));
        }
        for (int slant : new int[] {-301, 301, LOWEST, HIGHEST}) {
            argument("X " + slant, () -> did(() -> s.sun(0, slant, 0, 1)));
            argument("Y " + slant, () -> did(() -> s.sun(0, 0, slant, 1)));
        }
    }

    @Says(under = "Terms", words = "Z (1 .. 100), or without sun")
    private static void terms_sunZWithinLeastAndMost() {
        SunShadows s = new SunShadows(60, 1);
        s.box(0, 0, 50, 1, 1, 50);
        due("Z 1", "done", () -> did(() -> s.sun(0, 1, 0, 1)));
        due("slides by 50", 50, () -> s.cell(0, 0));
        due("Z 100", "done", () -> did(() -> s.sun(0, 100, 0, 100)));
        due("slides by 50 again", 50, () -> s.cell(0, 0));
        argument("Z 101", () -> did(() -> s.sun(0, 1, 0, 101)));
        argument("Z -1", () -> did(() -> s.sun(0, 1, 0, -1)));
    }

    @Says(under = "Terms", words = "a LIGHT (0 .. 1000)")
    private static void terms_lightWithinLeastAndMost() {
        SunShadows s = straight(2, 1);
        s.window(0, 0, 2, 1);
        due("1000", 0, () -> s.light(0, 1000));
        due("two cells of 1000", 2000, () -> s.lit(0, 0));
        due("0", 1000, () -> s.light(0, 0));
        due("two cells of 0", 0, () -> s.lit(0, 0));
        argument("-1", () -> s.light(0, -1));
        argument("1001", () -> s.light(0, 1001));
    }

    @Says(under = "Terms", words = "A point (x, y, z) throws its shadow to (x + z X / Z, y + z Y / Z) on the wall.")
    private static void terms_pointOnTheWallShadesItsOwnPlace() {
        SunShadows s = new SunShadows(10, 10);
        s.box(3, 4, 0, 4, 5, 0);
        int[][] suns = {{0, 0, 1}, {300, 300, 1}, {-300, -300, 1}, {300, 0, 1}, {0, -300, 1}, {-1, 1, 100}};
        for (int[] sun : suns) {
            s.sun(0, sun[0], sun[1], sun[2]);
            due("at the distance 0 with X " + sun[0] + " and Y " + sun[1], 403, () -> s.cell(0, 0));
            due("and nothing more", 1, () -> s.shadows(0, 0));
        }
    }

    @Says(under = "Terms", words = "if a point of a box throws its shadow on its middle")
    private static void terms_onePointIsEnough() {
        SunShadows s = new SunShadows(10, 10);
        s.box(2, 2, 1, 3, 3, 1);
        s.sun(0, 50, 50, 100);
        due("a corner on the middle", true, () -> s.shadow(3, 3, 0));
        s.sun(0, 49, 50, 100);
        due("a corner just left of it", false, () -> s.shadow(3, 3, 0));
        s.sun(0, 50, 49, 100);
        due("a corner just below it", false, () -> s.shadow(3, 3, 0));
        SunShadows thick = new SunShadows(10, 10);
        // Along the diagonal only the corner x1, y0 comes to the middle of (4, 3), at the distance 1/2.
        thick.box(2, 2, 0, 3, 3, 1);
        thick.sun(0, 3, 3, 1);
        due("a corner on its way over the middle", true, () -> thick.shadow(4, 3, 0));
        due("none on its way over the next", false, () -> thick.shadow(5, 3, 0));
        thick.sun(0, 300, 299, 100);
        due("a way just below it", true, () -> thick.shadow(4, 3, 0));
        thick.sun(0, 299, 300, 100);
        due("a way just above it", false, () -> thick.shadow(4, 3, 0));
        SunShadows fast = new SunShadows(60, 1);
        fast.box(-100, 0, 0, -99, 1, 1);
        fast.sun(0, 300, 0, 1);
        due("points between whole distances", 60, () -> fast.shadows(0, 0));
    }

    @Says(under = "Terms", words = "WINDOWS (0 .. 9, as they come, 10 at most)")
    private static void terms_windowNumbersFromFirstToLast() {
        SunShadows s = straight(10, 1);
        s.light(0, 1);
        for (int i = 0; i < 10; i++) {
            int number = i;
            argument("window " + i + " before it came", () -> s.lit(number, 0));
            due("number of window " + i, i, () -> s.window(0, 0, number + 1, 1));
            due("cells of window " + i, i + 1, () -> s.lit(number, 0));
        }
        state("an eleventh window", () -> s.window(0, 0, 1, 1));
        argument("there is no window 10", () -> s.lit(10, 0));
    }

    @Says(under = "Terms", words = "x0 <= x < x1, y0 <= y < y1, within the wall")
    private static void terms_windowHoldsItsFirstCellsNotItsLast() {
        SunShadows s = straight(6, 6);
        s.window(2, 1, 4, 4);
        s.box(0, 0, 0, 1, 1, 0);
        for (int y = 0; y < 6; y++) {
            for (int x = 0; x < 6; x++) {
                due("cell " + x + ", " + y + " of the window", x >= 2 && x < 4 && y >= 1 && y < 4 ? 1 : 0,
                        () -> s.dark(0, 0));
                s.move(0, x < 5 ? 1 : -5, x < 5 ? 0 : 1, 0);
            }
        }
    }

    @Says(under = "Terms", words = "they may lie on one another")
    private static void terms_windowsOnOneAnother() {
        SunShadows s = straight(4, 4);
        s.light(0, 1);
        s.box(1, 1, 0, 3, 3, 0);
        due("a window", 0, () -> s.window(1, 1, 4, 4));
        due("the same again", 1, () -> s.window(1, 1, 4, 4));
        due("one round it", 2, () -> s.window(0, 0, 4, 4));
        due("one within it", 3, () -> s.window(2, 2, 3, 3));
        int[][] cells = {{4, 5}, {4, 5}, {4, 12}, {1, 0}};
        for (int i = 0; i < cells.length; i++) {
            int number = i;
            due("dark cells of window " + i, cells[i][0], () -> s.dark(number, 0));
            due("light of window " + i, cells[i][1], () -> s.lit(number, 0));
        }
    }

    // ---- Terms: light, ledge, exceptions, the constant

    @Says(under = "Terms", words = "the hour's light times its cells that are not in shadow; 0 without sun")
    private static void terms_windowLightIsNoneWithoutSun() {
        SunShadows s = new SunShadows(4, 4);
        s.window(0, 0, 4, 4);
        s.light(5, 1000);
        due("an hour that never had sun", 0, () -> s.lit(0, 5));
        s.sun(5, 0, 0, 1);
        due("no cell in shadow", 16000, () -> s.lit(0, 5));
        s.box(0, 0, 0, 4, 4, 0);
        due("no cell out of shadow", 0, () -> s.lit(0, 5));
        s.move(0, 3, 3, 0);
        due("one cell in shadow", 15000, () -> s.lit(0, 5));
        s.sun(5, 0, 0, 0);
        due("the sun is gone", 0, () -> s.lit(0, 5));
    }

    @Says(under = "Terms", words = "That of a day is the sum over all hours.")
    private static void terms_dayHasItsFirstAndLastHour() {
        SunShadows s = new SunShadows(60, 60);
        s.window(0, 0, 60, 60);
        due("no hour", 0, () -> s.lit(0, NONE));
        for (int hour = 0; hour < 24; hour++) {
            int hours = hour + 1;
            s.sun(hour, 0, 0, 1);
            s.light(hour, 1000);
            due("hours 0 to " + hour, 3600000 * hours, () -> s.lit(0, NONE));
        }
    }

    @Says(under = "Terms", words = "A LEDGE of a window, so deep (1 .. 100)")
    private static void terms_ledgeDepthWithinLeastAndMost() {
        SunShadows s = new SunShadows(1, 60);
        s.window(0, 0, 1, 50);
        s.sun(0, 0, -1, 2);
        due("depth 1", 1, () -> s.ledge(0, 0, 1));
        due("depth 99", 50, () -> s.ledge(0, 0, 99));
        due("depth 100", 50, () -> s.ledge(0, 0, 100));
        s.sun(0, 0, -1, 4);
        due("depth 97 with a flatter sun", 24, () -> s.ledge(0, 0, 97));
        due("depth 100 with a flatter sun", 25, () -> s.ledge(0, 0, 100));
        for (int depth : new int[] {0, -1, 101, LOWEST, HIGHEST}) {
            argument("depth " + depth, () -> s.ledge(0, 0, depth));
        }
    }

    @Says(under = "Terms", words = "is a box more, for as long as is asked")
    private static void terms_ledgeIsGoneAfterwards() {
        SunShadows s = new SunShadows(4, 4);
        s.window(0, 0, 4, 3);
        s.sun(0, 0, -1, 1);
        due("with a ledge", 12, () -> s.ledge(0, 0, 3));
        due("dark after ledge()", 0, () -> s.dark(0, 0));
        due("a shallower ledge after a deeper", 4, () -> s.ledge(0, 0, 1));
        due("a depth", 2, () -> s.deep(0, 0, 8));
        due("shadows after deep()", 0, () -> s.shadows(NONE, 0));
        for (int i = 0; i < 10; i++) {
            int number = i;
            due("box " + i + " after ledges", i, () -> s.box(0, 3, 0, 1, 4, 0));
            due("a ledge beside the boxes", 4, () -> s.ledge(0, 0, 1));
            due("a depth beside the boxes", 1, () -> s.deep(0, 0, 1));
            s.move(number, 10, 0, 0);
        }
    }

    @Says(under = "Terms", words = "x0 and x1 of the window, y0 = its y1, y1 = that and 1, z0 0, z1 how deep it is")
    private static void terms_ledgeSides() {
        SunShadows s = new SunShadows(10, 10);
        s.window(2, 2, 6, 8);
        s.sun(0, 0, -1, 2);
        due("y0: depth 1 comes down to the middles", 4, () -> s.ledge(0, 0, 1));
        s.sun(0, 0, -49, 100);
        due("y0: not quite to the middles", 0, () -> s.ledge(0, 0, 1));
        s.sun(0, 0, -3, 1);
        due("z1: depth 2 comes down by 6", 24, () -> s.ledge(0, 0, 2));
        due("z1: depth 1 comes down by 3", 12, () -> s.ledge(0, 0, 1));
        s.sun(0, 1, -1, 1);
        due("x0 and z0: the shadow slides right", 4 + 3, () -> s.ledge(0, 0, 2));
        s.sun(0, -1, -1, 1);
        due("x1 and z0: the shadow slides left", 4 + 3, () -> s.ledge(0, 0, 2));
        s.sun(0, 0, 0, 1);
        due("the ledge hides no cell from a sun straight before it", 0, () -> s.ledge(0, 0, 100));
        s.sun(0, 0, 1, 1);
        due("nor from a sun below it", 0, () -> s.ledge(0, 0, 100));
        SunShadows full = new SunShadows(60, 60);
        full.window(0, 0, 60, 60);
        full.sun(0, 0, -300, 1);
        due("a ledge over the top of the largest wall", 3600, () -> full.ledge(0, 0, 1));
    }

    @Says(under = "Terms", words = "illegal argument: a number is out of its bounds, there is no such box, window")
    private static void terms_noSuchBoxOrWindow() {
        SunShadows s = furnished();
        for (int number : new int[] {NONE, -2, 2, 9, 10, LOWEST, HIGHEST}) {
            argument("move of box " + number, () -> s.move(number, 0, 0, 0));
            argument("there of box " + number, () -> s.there(number, true));
            argument("dark of window " + number, () -> s.dark(number, 0));
            argument("lit of window " + number, () -> s.lit(number, 0));
            argument("day of window " + number, () -> s.lit(number, NONE));
            argument("brightest of window " + number, () -> s.brightest(number));
            argument("ledge of window " + number, () -> s.ledge(number, 0, 1));
            argument("deep of window " + number, () -> s.deep(number, 0, 1));
            argument("worst of window " + number, () -> s.worst(number));
            if (number != NONE) {
                argument("shadows of box " + number, () -> s.shadows(number, 0));
            }
        }
    }

    @Says(under = "Terms", words = "Of several exceptions the one named first is thrown")
    private static void terms_illegalArgumentGoesFirst() {
        SunShadows s = furnished();
        for (int i = 2; i < 10; i++) {
            s.box(0, 0, 0, 1, 1, 1);
            s.window(0, 0, 1, 1);
        }
        state("no box is left", () -> s.box(0, 0, 0, 1, 1, 100));
        state("no window is left", () -> s.window(0, 0, 1, 1));
        state("there is no sun", () -> s.shadow(0, 0, NO_SUN));
        argument("box with 10 boxes", () -> s.box(0, 0, 0, 1, 1, 101));
        argument("window with 10 windows", () -> s.window(0, 0, 0, 1));
        argument("shadow without sun, no such x", () -> s.shadow(10, 0, NO_SUN));
        argument("shadow without sun, no such y", () -> s.shadow(0, 10, NO_SUN));
        argument("shadows without sun", () -> s.shadows(10, NO_SUN));
        argument("dark without sun", () -> s.dark(10, NO_SUN));
        argument("cell without sun", () -> s.cell(-1, NO_SUN));
        argument("ledge without sun, no such window", () -> s.ledge(10, NO_SUN, 1));
        argument("ledge without sun, depth 0", () -> s.ledge(0, NO_SUN, 0));
        argument("ledge without sun, depth 101", () -> s.ledge(0, NO_SUN, 101));
        argument("deep without sun, no such window", () -> s.deep(10, NO_SUN, 1));
        argument("deep without sun, cells -1", () -> s.deep(0, NO_SUN, -1));
    }

    @Says(under = "Terms", words = "a call that throws changes nothing")
    private static void terms_throwingCallsChangeNothing() {
        nothingChangedBy("box", s -> s.box(0, 0, 0, 10, 10, 101));
        nothingChangedBy("move x", s -> s.move(0, 301, 1, 1));
        nothingChangedBy("move y", s -> s.move(0, 1, -301, 1));
        nothingChangedBy("move z", s -> s.move(0, 1, 1, 301));
        nothingChangedBy("move of no box", s -> s.move(2, 1, 1, 1));
        nothingChangedBy("there of no box", s -> s.there(2, false));
        nothingChangedBy("sun X", s -> s.sun(0, 301, 5, 5));
        nothingChangedBy("sun Y", s -> s.sun(0, 5, -301, 5));
        nothingChangedBy("sun Z above", s -> s.sun(0, 5, 5, 101));
        nothingChangedBy("sun Z below", s -> s.sun(0, 5, 5, -1));
        nothingChangedBy("sun in no hour", s -> s.sun(24, 5, 5, 5));
        nothingChangedBy("no sun, with X out of bounds", s -> s.sun(0, 301, 0, 0));
        nothingChangedBy("light above", s -> s.light(0, 1001));
        nothingChangedBy("light below", s -> s.light(0, -1));
        nothingChangedBy("light in no hour", s -> s.light(24, 5));
        nothingChangedBy("window", s -> s.window(0, 0, 11, 1));
        nothingChangedBy("shadow", s -> s.shadow(0, 0, NO_SUN));
        nothingChangedBy("shadows", s -> s.shadows(NONE, NO_SUN));
        nothingChangedBy("dark", s -> s.dark(0, NO_SUN));
        nothingChangedBy("cell", s -> s.cell(-1, 0));
        nothingChangedBy("lit", s -> s.lit(2, 0));
        nothingChangedBy("brightest", s -> s.brightest(2));
        nothingChangedBy("ledge", s -> s.ledge(0, 0, 101));
        nothingChangedBy("deep", s -> s.deep(0, NO_SUN, 1));
        nothingChangedBy("worst", s -> s.worst(2));
        SunShadows full = straight(5, 5);
        full.light(0, 1);
        for (int i = 0; i < 10; i++) {
            full.box(0, 0, 0, 1, 1, 0);
            full.window(0, 0, 1, 1);
        }
        state("an eleventh box", () -> full.box(0, 0, 0, 5, 5, 0));
        state("an eleventh window", () -> full.window(0, 0, 5, 5));
        due("the boxes are as they were", 1, () -> full.shadows(NONE, 0));
        due("the last box is as it was", 1, () -> full.shadows(9, 0));
        due("the last window is as it was", 1, () -> full.dark(9, 0));
    }

    private static void nothingChangedBy(String what, Refused call) {
        SunShadows s = furnished();
        due(what + " is refused", true, () -> isRefused(s, call));
        due("what is seen after " + what, picture(furnished()), () -> picture(s));
    }

    private static boolean isRefused(SunShadows s, Refused call) {
        try {
            call.on(s);
            return false;
        } catch (IllegalArgumentException | IllegalStateException e) {
            return true;
        }
    }

    @Says(under = "Terms", words = "`NONE = -1`: There is none.")
    private static void terms_none() {
        due("NONE", -1, () -> SunShadows.NONE);
    }

    // ---- Promise 1: a new object

    @Says(under = "Promise 1:", words = "below 1 counts as 1")
    private static void promise01_belowOneCountsAsOne() {
        for (int size : new int[] {1, 0, -1, LOWEST}) {
            SunShadows wide = straight(3, size);
            due("row 0 of the height " + size, false, () -> wide.shadow(2, 0, 0));
            argument("row 1 of the height " + size, () -> wide.shadow(0, 1, 0));
            due("the width stays", 0, () -> wide.window(0, 0, 3, 1));
            SunShadows high = straight(size, 3);
            due("column 0 of the width " + size, false, () -> high.shadow(0, 2, 0));
            argument("column 1 of the width " + size, () -> high.shadow(1, 0, 0));
            due("the height stays", 0, () -> high.window(0, 0, 1, 3));
        }
        SunShadows two = straight(2, 2);
        due("2 counts as 2", false, () -> two.shadow(1, 1, 0));
    }

    @Says(under = "Promise 1:", words = "above 60 as 60")
    private static void promise01_aboveSixtyCountsAsSixty() {
        for (int size : new int[] {60, 61, 1000, HIGHEST}) {
            SunShadows wide = straight(size, 3);
            due("column 59 of the width " + size, false, () -> wide.shadow(59, 2, 0));
            argument("column 60 of the width " + size, () -> wide.shadow(60, 0, 0));
            wide.box(-100, -100, 0, 200, 200, 0);
            due("cells in shadow", 180, () -> wide.shadows(NONE, 0));
            SunShadows high = straight(3, size);
            due("row 59 of the height " + size, false, () -> high.shadow(2, 59, 0));
            argument("row 60 of the height " + size, () -> high.shadow(0, 60, 0));
            high.box(-100, -100, 0, 200, 200, 0);
            due("cells in shadow", 180, () -> high.shadows(NONE, 0));
        }
        SunShadows less = straight(59, 59);
        argument("59 counts as 59", () -> less.shadow(59, 0, 0));
        argument("59 counts as 59 in height too", () -> less.shadow(0, 59, 0));
    }

    @Says(under = "Promise 1:", words = "no boxes, windows, sun")
    private static void promise01_noBoxesWindowsSun() {
        SunShadows s = new SunShadows(5, 5);
        for (int i = 0; i < 10; i++) {
            int number = i;
            argument("no box " + i, () -> s.there(number, true));
            argument("no window " + i, () -> s.brightest(number));
        }
        for (int hour = 0; hour < 24; hour++) {
            int at = hour;
            state("no sun in hour " + hour, () -> s.shadow(0, 0, at));
        }
        s.sun(0, 0, 0, 1);
        due("no shadow", 0, () -> s.shadows(NONE, 0));
        due("the first box", 0, () -> s.box(0, 0, 0, 1, 1, 1));
        due("the first window", 0, () -> s.window(0, 0, 1, 1));
    }

    @Says(under = "Promise 1:", words = "all lights are 0")
    private static void promise01_allLightsAreZero() {
        SunShadows s = new SunShadows(5, 5);
        s.window(0, 0, 5, 5);
        for (int hour = 0; hour < 24; hour++) {
            int at = hour;
            s.sun(hour, 0, 0, 1);
            due("light that a window gets in hour " + hour, 0, () -> s.lit(0, at));
            due("light of hour " + hour, 0, () -> s.light(at, 0));
        }
    }

    // ---- Promise 2: box

    @Says(under = "Promise 2:", words = "A box: its number.")
    private static void promise02_numbersFromZero() {
        SunShadows s = straight(5, 5);
        due("the first", 0, () -> s.box(0, 0, 0, 1, 1, 0));
        argument("one refused", () -> s.box(0, 0, 0, 0, 1, 0));
        due("the second, as if none had been refused", 1, () -> s.box(0, 0, 0, 1, 1, 0));
        s.there(0, false);
        due("the third, though the first is not there", 2, () -> s.box(0, 0, 0, 1, 1, 0));
    }

    @Says(under = "Promise 2:", words = "Illegal argument; illegal state")
    private static void promise02_illegalArgument() {
        SunShadows s = straight(5, 5);
        int[] largest = {-100, -100, 0, 200, 200, 100};
        int[] below = {-101, -101, -1, -100, -100, -1};
        int[] above = {200, 200, 101, 201, 201, 101};
        for (int i = 0; i < 6; i++) {
            for (int value : new int[] {below[i], above[i], LOWEST, HIGHEST}) {
                int[] b = largest.clone();
                b[i] = value;
                argument("number " + i + " as " + value, () -> s.box(b[0], b[1], b[2], b[3], b[4], b[5]));
            }
        }
        due("the largest box itself", 0, () -> s.box(-100, -100, 0, 200, 200, 100));
    }

    @Says(under = "Promise 2:", words = "illegal state: there are 10")
    private static void promise02_thereAreTen() {
        SunShadows s = straight(5, 5);
        for (int i = 0; i < 10; i++) {
            due("box " + i, i, () -> s.box(0, 0, 0, 1, 1, 0));
        }
        state("one more", () -> s.box(0, 0, 0, 1, 1, 0));
        s.there(9, false);
        state("one more for one that is not there", () -> s.box(0, 0, 0, 1, 1, 0));
    }

    // ---- Promise 3: move

    @Says(under = "Promise 3:", words = "A box is moved along x, y, z")
    private static void promise03_movedUpToItsBounds() {
        SunShadows s = straight(60, 60);
        s.box(0, 0, 50, 1, 1, 50);
        int[][] moves = {{-100, 0, 0}, {299, 0, 0}, {-199, 0, 0}, {0, -100, 0}, {0, 299, 0}, {0, -199, 0}, {0, 0, -50},
            {0, 0, 100}, {0, 0, -50}, {-100, -100, -50}, {299, 299, 100}, {-299, -299, -100}, {100, 100, 50}, {0, 0, 0}};
        for (int[] m : moves) {
            due("by " + m[0] + ", " + m[1] + ", " + m[2], true, () -> s.move(0, m[0], m[1], m[2]));
        }
        due("back at its place", 0, () -> s.cell(0, 0));
        s.sun(0, 1, 1, 2);
        due("at its distance", 2525, () -> s.cell(0, 0));
        s.move(0, 1, 2, -10);
        due("along all three", 2221, () -> s.cell(0, 0));
        due("with its size", 1, () -> s.shadows(0, 0));
    }

    @Says(under = "Promise 3:", words = "false, changing nothing, if it would leave its bounds")
    private static void promise03_falseIfItWouldLeave() {
        SunShadows s = new SunShadows(60, 60);
        s.sun(0, 1, 1, 2);
        s.box(10, 12, 20, 20, 22, 30);
        String before = picture(s);
        int[][] moves = {{-111, 0, 0}, {181, 0, 0}, {0, -113, 0}, {0, 179, 0}, {0, 0, -21}, {0, 0, 71}, {1, 1, 71},
            {1, -113, 1}, {181, 1, 1}, {-300, -300, -300}, {300, 300, 300}};
        for (int[] m : moves) {
            SunShadows t = new SunShadows(60, 60);
            t.sun(0, 1, 1, 2);
            t.box(10, 12, 20, 20, 22, 30);
            due("by " + m[0] + ", " + m[1] + ", " + m[2], false, () -> t.move(0, m[0], m[1], m[2]));
            due("what is seen after it", before, () -> picture(t));
        }
    }

    @Says(under = "Promise 3:", words = "also if a number is not -300 .. 300")
    private static void promise03_numbersWithinLeastAndMost() {
        SunShadows s = straight(5, 5);
        s.box(0, 0, 0, 1, 1, 0);
        for (int far : new int[] {-300, 300}) {
            due("x " + far, false, () -> s.move(0, far, 0, 0));
            due("y " + far, false, () -> s.move(0, 0, far, 0));
            due("z " + far, false, () -> s.move(0, 0, 0, far));
        }
        for (int far : new int[] {-301, 301, LOWEST, HIGHEST}) {
            argument("x " + far, () -> s.move(0, far, 0, 0));
            argument("y " + far, () -> s.move(0, 0, far, 0));
            argument("z " + far, () -> s.move(0, 0, 0, far));
        }
        argument("no box", () -> s.move(1, 0, 0, 0));
    }

    // ---- Promise 4: there

    @Says(under = "Promise 4:", words = "A box is there, or not (it keeps its number)")
    private static void promise04_keepsItsNumber() {
        SunShadows s = straight(5, 5);
        s.window(0, 0, 5, 5);
        s.light(0, 1);
        s.box(0, 0, 0, 2, 2, 0);
        s.box(0, 4, 0, 1, 5, 0);
        s.there(0, false);
        due("it throws no shadow", false, () -> s.shadow(0, 0, 0));
        due("all but it", 1, () -> s.shadows(NONE, 0));
        due("of it alone", 0, () -> s.shadows(0, 0));
        due("the first cell is the other's", 400, () -> s.cell(0, 0));
        due("no dark cells from it", 1, () -> s.dark(0, 0));
        due("light is back", 24, () -> s.lit(0, 0));
        due("it takes no light", 1, () -> s.worst(0));
        due("the other keeps its number", 1, () -> s.shadows(1, 0));
        s.there(0, true);
        due("it throws its shadow again", 4, () -> s.shadows(0, 0));
        due("it takes light again", 0, () -> s.worst(0));
    }

    @Says(under = "Promise 4:", words = "whether it was")
    private static void promise04_whetherItWas() {
        SunShadows s = straight(5, 5);
        s.box(0, 0, 0, 1, 1, 0);
        due("new, stays", true, () -> s.there(0, true));
        due("was, goes", true, () -> s.there(0, false));
        due("was not, stays away", false, () -> s.there(0, false));
        due("was not, comes", false, () -> s.there(0, true));
        due("was, stays", true, () -> s.there(0, true));
    }

    @Says(under = "Promise 4:", words = "Illegal argument.")
    private static void promise04_noSuchBox() {
        SunShadows s = straight(5, 5);
        argument("no boxes at all", () -> s.there(0, true));
        s.box(0, 0, 0, 1, 1, 0);
        for (int number : new int[] {NONE, 1, 9, 10, LOWEST, HIGHEST}) {
            argument("box " + number + " on", () -> s.there(number, true));
            argument("box " + number + " off", () -> s.there(number, false));
        }
    }

    // ---- Promise 5: sun

    @Says(under = "Promise 5:", words = "Z 0: there is none then")
    private static void promise05_zeroIsNoSun() {
        SunShadows s = furnished();
        s.sun(0, 5, 5, 0);
        state("shadow", () -> s.shadow(0, 0, 0));
        state("shadows", () -> s.shadows(NONE, 0));
        due("no light", 0, () -> s.lit(0, 0));
        due("the other hours keep theirs", 23, () -> s.brightest(0));
        due("never had any, has none", "done", () -> did(() -> s.sun(5, 0, 0, 0)));
        state("still none", () -> s.shadow(0, 0, 5));
        s.sun(0, 0, 0, 1);
        due("there again", false, () -> s.shadow(0, 0, 0));
        due("and its light had stayed", 3, () -> s.light(0, 3));
    }

    @Says(under = "Promise 5:", words = "also if Z is below 0 or above 100")
    private static void promise05_zBelowZeroOrAboveHundred() {
        SunShadows s = furnished();
        for (int z : new int[] {-1, 101, LOWEST, HIGHEST}) {
            argument("Z " + z, () -> did(() -> s.sun(0, 0, 0, z)));
        }
        for (int hour : new int[] {NONE, 24, LOWEST, HIGHEST}) {
            argument("hour " + hour, () -> did(() -> s.sun(hour, 0, 0, 1)));
            argument("no sun in hour " + hour, () -> did(() -> s.sun(hour, 0, 0, 0)));
        }
        due("Z 0", "done", () -> did(() -> s.sun(0, 0, 0, 0)));
        due("Z 100", "done", () -> did(() -> s.sun(0, 0, 0, 100)));
        for (int slant : new int[] {-301, 301, LOWEST, HIGHEST}) {
            argument("X " + slant, () -> did(() -> s.sun(0, slant, 0, 1)));
            argument("Y " + slant, () -> did(() -> s.sun(0, 0, slant, 1)));
            argument("X " + slant + " with Z 0", () -> did(() -> s.sun(0, slant, 0, 0)));
            argument("Y " + slant + " with Z 0", () -> did(() -> s.sun(0, 0, slant, 0)));
        }
    }

    // ---- Promise 6: light

    @Says(under = "Promise 6:", words = "An hour's light: what it was.")
    private static void promise06_whatItWas() {
        SunShadows s = straight(5, 5);
        due("hour 0", 0, () -> s.light(0, 1000));
        due("hour 23", 0, () -> s.light(23, 5));
        due("hour 0 again", 1000, () -> s.light(0, 0));
        due("hour 0 once more", 0, () -> s.light(0, 1));
        due("hour 23 again", 5, () -> s.light(23, 5));
        due("an hour between", 0, () -> s.light(12, 0));
    }

    @Says(under = "Promise 6:", words = "Illegal argument.")
    private static void promise06_illegalArgument() {
        SunShadows s = straight(5, 5);
        for (int amount : new int[] {-1, 1001, LOWEST, HIGHEST}) {
            argument("amount " + amount, () -> s.light(0, amount));
        }
        for (int hour : new int[] {NONE, 24, LOWEST, HIGHEST}) {
            argument("hour " + hour, () -> s.light(hour, 1));
        }
        due("1000", 0, () -> s.light(0, 1000));
        due("0", 1000, () -> s.light(0, 0));
    }

    // ---- Promise 7: window

    @Says(under = "Promise 7:", words = "A window: its number.")
    private static void promise07_numbersFromZero() {
        SunShadows s = straight(5, 5);
        due("the first", 0, () -> s.window(0, 0, 1, 1));
        argument("one refused", () -> s.window(0, 0, 6, 1));
        due("the second, as if none had been refused", 1, () -> s.window(0, 0, 1, 1));
    }

    @Says(under = "Promise 7:", words = "also if it has no cells")
    private static void promise07_noCells() {
        SunShadows s = straight(5, 5);
        argument("no width", () -> s.window(2, 1, 2, 3));
        argument("no height", () -> s.window(1, 2, 3, 2));
        argument("turned in x", () -> s.window(3, 1, 2, 3));
        argument("turned in y", () -> s.window(1, 3, 3, 2));
        argument("turned in both", () -> s.window(3, 3, 2, 2));
        argument("no width at the wall's end", () -> s.window(5, 0, 5, 5));
        argument("no height at the wall's end", () -> s.window(0, 5, 5, 5));
        argument("nothing at all", () -> s.window(0, 0, 0, 0));
        argument("from the highest to the lowest", () -> s.window(HIGHEST, HIGHEST, LOWEST, LOWEST));
        due("one cell", 0, () -> s.window(2, 2, 3, 3));
    }

    @Says(under = "Promise 7:", words = "or goes beyond the wall")
    private static void promise07_beyondTheWall() {
        SunShadows s = straight(5, 4);
        argument("left of it", () -> s.window(-1, 0, 1, 1));
        argument("below it", () -> s.window(0, -1, 1, 1));
        argument("right of it", () -> s.window(0, 0, 6, 1));
        argument("above it", () -> s.window(0, 0, 1, 5));
        argument("wholly right of it", () -> s.window(5, 0, 6, 1));
        argument("wholly above it", () -> s.window(0, 4, 1, 5));
        argument("wholly left of it", () -> s.window(-2, 0, -1, 1));
        argument("wholly below it", () -> s.window(0, -2, 1, -1));
        argument("from the lowest to the highest", () -> s.window(LOWEST, LOWEST, HIGHEST, HIGHEST));
        due("the whole wall", 0, () -> s.window(0, 0, 5, 4));
        due("its last cell", 1, () -> s.window(4, 3, 5, 4));
    }

    @Says(under = "Promise 7:", words = "illegal state: there are 10")
    private static void promise07_thereAreTen() {
        SunShadows s = straight(5, 5);
        for (int i = 0; i < 10; i++) {
            due("window " + i, i, () -> s.window(0, 0, 1, 1));
        }
        state("one more", () -> s.window(0, 0, 1, 1));
    }

    // ---- Promise 8: shadow

    @Says(under = "Promise 8:", words = "Whether a cell is in shadow in an hour.")
    private static void promise08_firstAndLastCell() {
        SunShadows s = straight(60, 60);
        s.box(0, 0, 0, 1, 1, 0);
        s.box(59, 59, 0, 60, 60, 0);
        due("the first cell", true, () -> s.shadow(0, 0, 0));
        due("the last cell", true, () -> s.shadow(59, 59, 0));
        due("the last of the first row", false, () -> s.shadow(59, 0, 0));
        due("the first of the last row", false, () -> s.shadow(0, 59, 0));
        due("beside the first", false, () -> s.shadow(1, 0, 0));
        due("below the last", false, () -> s.shadow(59, 58, 0));
    }

    @Says(under = "Promise 8:", words = "also if there is no such cell")
    private static void promise08_noSuchCell() {
        SunShadows s = straight(6, 3);
        for (int out : new int[] {-1, 60, LOWEST, HIGHEST}) {
            argument("x " + out, () -> s.shadow(out, 0, 0));
            argument("y " + out, () -> s.shadow(0, out, 0));
        }
        argument("x W", () -> s.shadow(6, 0, 0));
        argument("y H, though x may be so large", () -> s.shadow(0, 3, 0));
        argument("no such hour", () -> s.shadow(0, 0, 24));
        due("the last cell", false, () -> s.shadow(5, 2, 0));
    }

    @Says(under = "Promise 8:", words = "illegal state: the hour has no sun")
    private static void promise08_noSun() {
        SunShadows s = straight(5, 5);
        state("an hour that never had any", () -> s.shadow(0, 0, 1));
        due("an hour with sun", false, () -> s.shadow(0, 0, 0));
        s.sun(0, 0, 0, 0);
        state("an hour that has lost it", () -> s.shadow(0, 0, 0));
        s.light(1, 1000);
        state("light makes no sun", () -> s.shadow(0, 0, 1));
    }

    // ---- Promise 9: shadows

    @Says(under = "Promise 9:", words = "How many cells of the wall are in shadow in an hour")
    private static void promise09_noneAndAllOfTheWall() {
        SunShadows s = straight(60, 60);
        due("no box", 0, () -> s.shadows(NONE, 0));
        s.box(-100, -100, 0, 0, 0, 0);
        s.box(60, 60, 0, 200, 200, 0);
        due("boxes beside the wall", 0, () -> s.shadows(NONE, 0));
        s.box(-100, -100, 100, 200, 200, 100);
        due("a box before all of it", 3600, () -> s.shadows(NONE, 0));
        due("that box alone", 3600, () -> s.shadows(2, 0));
    }

    @Says(under = "Promise 9:", words = "of one box alone (its number), or of all (NONE)")
    private static void promise09_oneBoxOrAll() {
        SunShadows s = straight(10, 10);
        for (int i = 0; i < 10; i++) {
            s.box(0, 0, 0, i + 1, 1, 0);
        }
        due("the first box", 1, () -> s.shadows(0, 0));
        due("the last box", 10, () -> s.shadows(9, 0));
        due("all, each cell once", 10, () -> s.shadows(NONE, 0));
        s.there(9, false);
        due("the last box, not there", 0, () -> s.shadows(9, 0));
        due("all but it", 9, () -> s.shadows(NONE, 0));
    }

    @Says(under = "Promise 9:", words = "Illegal argument; illegal state: as for shadow()")
    private static void promise09_refused() {
        SunShadows s = straight(10, 10);
        s.box(0, 0, 0, 1, 1, 0);
        for (int number : new int[] {-2, 1, 10, LOWEST, HIGHEST}) {
            argument("box " + number, () -> s.shadows(number, 0));
        }
        for (int hour : new int[] {-1, 24, LOWEST, HIGHEST}) {
            argument("one box in hour " + hour, () -> s.shadows(0, hour));
            argument("all in hour " + hour, () -> s.shadows(NONE, hour));
        }
        state("one box without sun", () -> s.shadows(0, 1));
        state("all without sun", () -> s.shadows(NONE, 1));
        s.there(0, false);
        state("a box that is not there without sun", () -> s.shadows(0, 1));
    }

    // ---- Promise 10: dark

    @Says(under = "Promise 10:", words = "How many cells of a window are in shadow in an hour.")
    private static void promise10_noneAndAllOfAWindow() {
        SunShadows s = straight(60, 60);
        s.window(0, 0, 60, 60);
        s.window(20, 20, 40, 40);
        due("no box", 0, () -> s.dark(0, 0));
        int[][] round = {{0, 0, 60, 20}, {0, 40, 60, 60}, {0, 0, 20, 60}, {40, 0, 60, 60}};
        for (int[] b : round) {
            s.box(b[0], b[1], 0, b[2], b[3], 0);
        }
        due("boxes round the window", 0, () -> s.dark(1, 0));
        due("the wall round the window", 3200, () -> s.dark(0, 0));
        s.box(20, 20, 0, 40, 40, 0);
        due("all of the window", 400, () -> s.dark(1, 0));
        due("all of the wall", 3600, () -> s.dark(0, 0));
    }

    @Says(under = "Promise 10:", words = "Illegal argument; illegal state: as for shadow()")
    private static void promise10_refused() {
        SunShadows s = straight(10, 10);
        argument("no windows at all", () -> s.dark(0, 0));
        s.window(0, 0, 1, 1);
        for (int number : new int[] {NONE, 1, 10, LOWEST, HIGHEST}) {
            argument("window " + number, () -> s.dark(number, 0));
        }
        for (int hour : new int[] {NONE, 24, LOWEST, HIGHEST}) {
            argument("hour " + hour, () -> s.dark(0, hour));
        }
        state("no sun", () -> s.dark(0, 1));
    }

    // ---- Promise 11: cell

    @Says(under = "Promise 11:", words = "The cell in shadow (by y, then x) that has so many others before it")
    private static void promise11_orderOfCells() {
        SunShadows s = straight(60, 60);
        s.box(59, 0, 0, 60, 1, 0);
        s.box(58, 0, 0, 59, 1, 0);
        s.box(0, 1, 0, 1, 2, 0);
        s.box(59, 59, 0, 60, 60, 0);
        s.box(59, 1, 0, 60, 2, 0);
        int[] cells = {58, 59, 100, 159, 5959};
        for (int i = 0; i < cells.length; i++) {
            int place = i;
            due("place " + i, cells[i], () -> s.cell(place, 0));
        }
        s.box(0, 0, 0, 60, 60, 0);
        due("the first of the whole wall", 0, () -> s.cell(0, 0));
        due("the last of the first row", 59, () -> s.cell(59, 0));
        due("the first of the second row", 100, () -> s.cell(60, 0));
        due("the last of the whole wall", 5959, () -> s.cell(3599, 0));
    }

    @Says(under = "Promise 11:", words = "100 * y + x; NONE")
    private static void promise11_noneIfThereAreNotSoMany() {
        SunShadows s = straight(60, 60);
        due("no shadow at all", NONE, () -> s.cell(0, 0));
        s.box(7, 9, 0, 8, 10, 0);
        due("the only one", 907, () -> s.cell(0, 0));
        due("one after the only one", NONE, () -> s.cell(1, 0));
        due("far behind", NONE, () -> s.cell(HIGHEST, 0));
        s.box(0, 0, 0, 60, 60, 0);
        due("behind the whole wall", NONE, () -> s.cell(3600, 0));
    }

    @Says(under = "Promise 11:", words = "also if place is below 0")
    private static void promise11_placeBelowZero() {
        SunShadows s = straight(5, 5);
        s.box(0, 0, 0, 5, 5, 0);
        argument("place -1", () -> s.cell(-1, 0));
        argument("place far below", () -> s.cell(LOWEST, 0));
        for (int hour : new int[] {NONE, 24, LOWEST, HIGHEST}) {
            argument("hour " + hour, () -> s.cell(0, hour));
        }
        due("place 0", 0, () -> s.cell(0, 0));
    }

    @Says(under = "Promise 11:", words = "illegal state: as for shadow()")
    private static void promise11_noSun() {
        SunShadows s = straight(5, 5);
        s.box(0, 0, 0, 5, 5, 0);
        state("no sun", () -> s.cell(0, 1));
        state("no sun, far behind", () -> s.cell(HIGHEST, 1));
    }

    // ---- Promise 12: lit

    @Says(under = "Promise 12:", words = "A window's light in an hour (NONE: of the day).")
    private static void promise12_hourOrDay() {
        SunShadows s = new SunShadows(4, 4);
        s.window(0, 0, 4, 4);
        due("no sun, no light", 0, () -> s.lit(0, 0));
        due("a day without sun", 0, () -> s.lit(0, NONE));
        s.light(0, 2);
        s.light(23, 3);
        due("a day of light without sun", 0, () -> s.lit(0, NONE));
        s.sun(0, 0, 0, 1);
        s.sun(23, 0, -1, 1);
        s.box(0, 0, 1, 4, 1, 1);
        due("hour 0", 24, () -> s.lit(0, 0));
        due("hour 23", 48, () -> s.lit(0, 23));
        due("hour 12", 0, () -> s.lit(0, 12));
        due("the day", 72, () -> s.lit(0, NONE));
    }

    @Says(under = "Promise 12:", words = "Illegal argument.")
    private static void promise12_refused() {
        SunShadows s = straight(4, 4);
        argument("no windows at all", () -> s.lit(0, 0));
        s.window(0, 0, 4, 4);
        for (int number : new int[] {NONE, 1, 10, LOWEST, HIGHEST}) {
            argument("window " + number, () -> s.lit(number, 0));
            argument("day of window " + number, () -> s.lit(number, NONE));
        }
        for (int hour : new int[] {-2, 24, LOWEST, HIGHEST}) {
            argument("hour " + hour, () -> s.lit(0, hour));
        }
        due("no illegal state: an hour without sun", 0, () -> s.lit(0, 1));
    }

    // ---- Promise 13: brightest

    @Says(under = "Promise 13:", words = "The hour in which a window gets most light, of several the first")
    private static void promise13_ofSeveralTheFirst() {
        SunShadows s = new SunShadows(2, 1);
        s.window(0, 0, 2, 1);
        for (int hour = 23; hour >= 0; hour--) {
            s.sun(hour, 0, 0, 1);
            s.light(hour, 10);
            due("all alike from hour " + hour + " on", hour, () -> s.brightest(0));
        }
        s.light(23, 11);
        due("the last hour", 23, () -> s.brightest(0));
        s.light(22, 11);
        due("the last two alike", 22, () -> s.brightest(0));
        // 20 for one cell is as much as 10 for two.
        s.light(23, 0);
        s.light(22, 0);
        s.box(0, 0, 1, 1, 1, 1);
        s.sun(5, 300, 0, 1);
        s.light(3, 20);
        due("one cell of 20 in hour 3, two of 10 in hour 5", 3, () -> s.brightest(0));
        s.sun(2, 300, 0, 1);
        due("two of 10 in hour 2 too", 2, () -> s.brightest(0));
    }

    @Says(under = "Promise 13:", words = "NONE if it gets none")
    private static void promise13_noneIfItGetsNone() {
        SunShadows s = new SunShadows(3, 3);
        s.window(0, 0, 1, 1);
        due("no sun, no light", NONE, () -> s.brightest(0));
        s.light(0, 1000);
        due("light without sun", NONE, () -> s.brightest(0));
        s.light(0, 0);
        s.sun(0, 0, 0, 1);
        due("sun without light", NONE, () -> s.brightest(0));
        s.light(0, 1);
        due("the least light", 0, () -> s.brightest(0));
        s.box(0, 0, 0, 1, 1, 0);
        due("all in shadow", NONE, () -> s.brightest(0));
    }

    @Says(under = "Promise 13:", words = "Illegal argument.")
    private static void promise13_refused() {
        SunShadows s = straight(3, 3);
        argument("no windows at all", () -> s.brightest(0));
        s.window(0, 0, 1, 1);
        for (int number : new int[] {NONE, 1, 10, LOWEST, HIGHEST}) {
            argument("window " + number, () -> s.brightest(number));
        }
    }

    // ---- Promise 14: ledge

    @Says(under = "Promise 14:", words = "How many cells of a window lie in shadow in an hour with a LEDGE so deep.")
    private static void promise14_noneAndAllWithALedge() {
        SunShadows s = new SunShadows(10, 10);
        s.window(2, 2, 6, 8);
        s.sun(0, 0, -1, 1);
        due("the shallowest", 4, () -> s.ledge(0, 0, 1));
        due("one row left", 20, () -> s.ledge(0, 0, 5));
        due("all, and not more", 24, () -> s.ledge(0, 0, 6));
        due("the deepest", 24, () -> s.ledge(0, 0, 100));
        s.sun(0, 300, -1, 1);
        due("the ledge's shadow flies past", 0, () -> s.ledge(0, 0, 100));
        s.box(0, 7, 0, 10, 8, 0);
        due("the boxes' shadow stays", 4, () -> s.ledge(0, 0, 100));
        s.sun(0, 0, -1, 1);
        due("box and ledge on the same cells", 4, () -> s.ledge(0, 0, 1));
        due("box and ledge", 8, () -> s.ledge(0, 0, 2));
    }

    @Says(under = "Promise 14:", words = "Illegal argument; illegal state: as for shadow()")
    private static void promise14_refused() {
        SunShadows s = straight(10, 10);
        argument("no windows at all", () -> s.ledge(0, 0, 1));
        s.window(0, 0, 1, 1);
        for (int number : new int[] {NONE, 1, 10, LOWEST, HIGHEST}) {
            argument("window " + number, () -> s.ledge(number, 0, 1));
        }
        for (int hour : new int[] {NONE, 24, LOWEST, HIGHEST}) {
            argument("hour " + hour, () -> s.ledge(0, hour, 1));
        }
        for (int depth : new int[] {0, -1, 101, LOWEST, HIGHEST}) {
            argument("depth " + depth, () -> s.ledge(0, 0, depth));
        }
        state("no sun", () -> s.ledge(0, 1, 1));
        due("depth 1", 0, () -> s.ledge(0, 0, 1));
        due("depth 100", 0, () -> s.ledge(0, 0, 100));
    }

    // ---- Promise 15: deep

    @Says(under = "Promise 15:", words = "The least depth of a LEDGE with which at least so many cells of a window lie in shadow")
    private static void promise15_leastDepth() {
        SunShadows s = new SunShadows(2, 60);
        s.window(0, 0, 2, 50);
        // Row k below the ledge has its middle k + 1/2 below it; a ledge comes down by its depth times -Y / Z.
        s.sun(0, 0, -1, 2);
        for (int row = 0; row < 50; row++) {
            int cells = 2 * row + 1;
            due("for the first cell of row " + row, 2 * row + 1, () -> s.deep(0, 0, cells));
            due("for both cells of row " + row, 2 * row + 1, () -> s.deep(0, 0, cells + 1));
        }
        s.sun(0, 0, -1, 4);
        for (int row = 0; row < 25; row++) {
            int cells = 2 * row + 2;
            due("for row " + row + " with a flatter sun", 4 * row + 2, () -> s.deep(0, 0, cells));
        }
        s.sun(0, 0, -1, 8);
        due("for row 12: the deepest there is", 100, () -> s.deep(0, 0, 26));
        s.sun(0, 0, -300, 1);
        due("for all: the shallowest there is", 1, () -> s.deep(0, 0, 100));
    }

    @Says(under = "Promise 15:", words = "0 if they do without one")
    private static void promise15_zeroIfTheyDoWithout() {
        SunShadows s = new SunShadows(4, 4);
        s.window(0, 0, 4, 4);
        s.sun(0, 0, -1, 1);
        due("no cells asked for", 0, () -> s.deep(0, 0, 0));
        due("one asked for", 1, () -> s.deep(0, 0, 1));
        s.box(0, 0, 0, 4, 1, 0);
        due("as many as the box shades", 0, () -> s.deep(0, 0, 4));
        due("one more", 1, () -> s.deep(0, 0, 5));
        s.box(0, 0, 0, 4, 4, 0);
        due("all, by boxes", 0, () -> s.deep(0, 0, 16));
    }

    @Says(under = "Promise 15:", words = "NONE if no depth does")
    private static void promise15_noneIfNoDepthDoes() {
        SunShadows s = new SunShadows(4, 60);
        s.window(0, 0, 4, 50);
        s.sun(0, 0, -1, 1);
        due("all cells", 50, () -> s.deep(0, 0, 200));
        due("more than the window has", NONE, () -> s.deep(0, 0, 201));
        due("far more", NONE, () -> s.deep(0, 0, HIGHEST));
        s.sun(0, 0, -1, 8);
        due("what the depth 100 does", 100, () -> s.deep(0, 0, 52));
        due("what the depth 101 would do", NONE, () -> s.deep(0, 0, 53));
        s.sun(0, 0, 0, 1);
        due("a ledge that shades nothing", NONE, () -> s.deep(0, 0, 1));
        s.box(0, 0, 0, 4, 50, 0);
        due("a box before all, more than the window has", NONE, () -> s.deep(0, 0, 201));
    }

    @Says(under = "Promise 15:", words = "also if cells is below 0")
    private static void promise15_cellsBelowZero() {
        SunShadows s = straight(4, 4);
        argument("no windows at all", () -> s.deep(0, 0, 0));
        s.window(0, 0, 4, 4);
        argument("cells -1", () -> s.deep(0, 0, -1));
        argument("cells far below", () -> s.deep(0, 0, LOWEST));
        for (int number : new int[] {NONE, 1, 10, LOWEST, HIGHEST}) {
            argument("window " + number, () -> s.deep(number, 0, 0));
        }
        for (int hour : new int[] {NONE, 24, LOWEST, HIGHEST}) {
            argument("hour " + hour, () -> s.deep(0, hour, 0));
        }
        due("cells 0", 0, () -> s.deep(0, 0, 0));
    }

    @Says(under = "Promise 15:", words = "illegal state: as for shadow()")
    private static void promise15_noSun() {
        SunShadows s = straight(4, 4);
        s.window(0, 0, 4, 4);
        state("no sun, 0 cells", () -> s.deep(0, 1, 0));
        state("no sun, more cells than there are", () -> s.deep(0, 1, HIGHEST));
    }

    // ---- Promise 16: worst

    @Says(under = "Promise 16:", words = "The box that takes most light from a window over the day")
    private static void promise16_firstToLastHourAndBox() {
        SunShadows s = straight(10, 1);
        s.window(0, 0, 10, 1);
        s.sun(23, 300, 0, 1);
        s.light(0, 3);
        s.light(23, 4);
        s.box(0, 0, 0, 1, 1, 0);
        s.box(4, 0, 1, 6, 1, 1);
        due("3 + 4 against 2 * 3, for box 1 shades nothing in hour 23", 0, () -> s.worst(0));
        s.light(0, 5);
        due("5 + 4 against 2 * 5", 1, () -> s.worst(0));
        s.light(23, 6);
        due("5 + 6 against 2 * 5", 0, () -> s.worst(0));
        for (int i = 2; i < 9; i++) {
            s.box(9, 0, 0, 10, 1, 0);
        }
        s.box(6, 0, 0, 9, 1, 0);
        due("the last box", 9, () -> s.worst(0));
    }

    @Says(under = "Promise 16:", words = "by how much more the window would have without it")
    private static void promise16_onlyWhatItTakesAlone() {
        SunShadows s = straight(10, 2);
        s.window(0, 0, 10, 2);
        s.light(0, 1);
        s.box(0, 0, 0, 2, 1, 0);
        s.box(3, 0, 0, 8, 1, 0);
        due("five cells against two", 1, () -> s.worst(0));
        s.box(4, 0, 0, 8, 1, 0);
        due("four of the five are dark without it too", 0, () -> s.worst(0));
        s.box(5, 0, 0, 8, 2, 0);
        due("a third box takes three in the row above", 3, () -> s.worst(0));
        s.there(3, false);
        s.there(2, false);
        due("five cells again", 1, () -> s.worst(0));
    }

    @Says(under = "Promise 16:", words = "of several the first box")
    private static void promise16_ofSeveralTheFirst() {
        SunShadows s = straight(20, 1);
        s.window(0, 0, 10, 1);
        s.light(0, 1);
        s.box(15, 0, 0, 16, 1, 0);
        for (int i = 1; i < 10; i++) {
            s.box(i, 0, 0, i + 1, 1, 0);
            due("boxes 1 to " + i + " alike, box 0 beside the window", 1, () -> s.worst(0));
        }
        s.there(1, false);
        due("boxes 2 to 9 alike", 2, () -> s.worst(0));
        s.move(0, -15, 0, 0);
        due("box 0 as well", 0, () -> s.worst(0));
    }

    @Says(under = "Promise 16:", words = "NONE if none takes any")
    private static void promise16_noneIfNoneTakesAny() {
        SunShadows s = straight(6, 6);
        s.window(2, 2, 4, 4);
        s.light(0, 1);
        due("no boxes", NONE, () -> s.worst(0));
        s.box(0, 0, 0, 6, 2, 0);
        s.box(0, 4, 0, 6, 6, 0);
        s.box(0, 0, 0, 2, 6, 0);
        s.box(4, 0, 0, 6, 6, 0);
        due("boxes round the window", NONE, () -> s.worst(0));
        s.box(3, 3, 0, 4, 4, 0);
        due("one cell", 4, () -> s.worst(0));
        s.light(0, 0);
        due("sun without light", NONE, () -> s.worst(0));
        s.light(1, 1000);
        due("light without sun", NONE, () -> s.worst(0));
        s.light(0, 1);
        s.box(3, 3, 0, 4, 4, 0);
        due("two boxes before the same cell", NONE, () -> s.worst(0));
        s.there(4, false);
        due("one of the two", 5, () -> s.worst(0));
        s.there(5, false);
        due("neither of the two", NONE, () -> s.worst(0));
    }

    @Says(under = "Promise 16:", words = "Illegal argument.")
    private static void promise16_refused() {
        SunShadows s = straight(3, 3);
        argument("no windows at all", () -> s.worst(0));
        s.window(0, 0, 1, 1);
        for (int number : new int[] {NONE, 1, 10, LOWEST, HIGHEST}) {
            argument("window " + number, () -> s.worst(number));
        }
        due("no illegal state: no hour with sun but one", NONE, () -> s.worst(0));
    }
}
