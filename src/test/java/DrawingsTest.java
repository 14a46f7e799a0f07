/** Promises 1 to 4, 6 and 7, and of promise 5 what it does to the drawing. */
public final class DrawingsTest {
    private DrawingsTest() {
    }

    public static void main(String[] args) {
        newObject();
        constants();
        drawing();
        strokeCounts();
        strokeRefuses();
        strokeRefusesInOrder();
        finishGoesBackWithTheFirstPoint();
        finishDropsDoubledStrokes();
        finishKeepsTheEarlierOfDoubledStrokes();
        finishRefuses();
        redraw();
        ofDrawing();
        lengthOfEachStroke();
        lengthIsSummedInOrderAsFloats();
        Check.end();
    }

    private static void newObject() {
        Kerfworks shop = new Kerfworks();
        Check.noPlace("ofDrawing(0, 0)", () -> shop.ofDrawing(0, 0));
        Check.noPlace("length(0)", () -> shop.length(0));
        Check.noPlace("ofJob(0, 0)", () -> shop.ofJob(0, 0));
        Check.noPlace("where(0, 0, 0)", () -> shop.where(0, 0, 0));
        Check.is("free(0)", shop.free(0), -1);
        Check.is("minutes()", shop.minutes(), 0);
        Check.isFloat("cutLength()", shop.cutLength(), 0f);
        Check.isFloat("cutAnew()", shop.cutAnew(), 0f);
        Check.is("first drawing()", shop.drawing(), 0);
        Check.is("first sheet()", shop.sheet(1, 1), 0);
        Check.is("first drawing() of another", new Kerfworks().drawing(), 0);
    }

    private static void constants() {
        Check.is("NONE", Kerfworks.NONE, -1);
        Check.is("OPEN", Kerfworks.OPEN, 0);
        Check.is("FINE", Kerfworks.FINE, 1);
        Check.is("WAITS", Kerfworks.WAITS, 0);
        Check.is("NESTED", Kerfworks.NESTED, 1);
        Check.is("CUT", Kerfworks.CUT, 2);
        Check.is("CANCELLED", Kerfworks.CANCELLED, 3);
    }

    private static void drawing() {
        Kerfworks shop = new Kerfworks();
        for (int i = 0; i < 12; i++) {
            Check.is("drawing()", shop.drawing(), i);
            for (int what = 0; what <= 4; what++) {
                Check.is("ofDrawing of a new one", shop.ofDrawing(i, what), 0);
            }
            Check.isFloat("length of a new one", shop.length(i), 0f);
        }
        Check.noState("the 13th drawing()", () -> shop.drawing());
        Check.noPlace("ofDrawing(12, 0)", () -> shop.ofDrawing(12, 0));
    }

    private static void strokeCounts() {
        Kerfworks shop = new Kerfworks();
        shop.drawing();
        shop.drawing();
        Check.is("stroke to the last point", shop.stroke(1, 0, 1023), 1);
        for (int i = 2; i <= 24; i++) {
            Check.is("stroke, also a doubled one", shop.stroke(1, 1023, 0), i);
        }
        Check.noState("the 25th stroke", () -> shop.stroke(1, 5, 6));
        Check.is("strokes after it", shop.ofDrawing(1, 1), 24);
        Check.is("strokes of the other one", shop.ofDrawing(0, 1), 0);
        Check.is("finish", shop.finish(1), 0);
        Check.is("stroke after doubled ones are dropped", shop.stroke(1, 5, 6), 2);
    }

    private static void strokeRefuses() {
        Kerfworks shop = new Kerfworks();
        Check.noPlace("stroke without a drawing", () -> shop.stroke(0, 0, 1));
        shop.drawing();
        int[] noPoints = {-1, 1024, Integer.MAX_VALUE, Integer.MIN_VALUE};
        for (int point : noPoints) {
            Check.noPlace("stroke from no point", () -> shop.stroke(0, point, 1));
            Check.noPlace("stroke to no point", () -> shop.stroke(0, 1, point));
            Check.noPlace("stroke of no drawing", () -> shop.stroke(point, 0, 1));
        }
        Check.noPlace("stroke(1, ..)", () -> shop.stroke(1, 0, 1));
        Check.noArgument("stroke(0, 0, 0)", () -> shop.stroke(0, 0, 0));
        Check.noArgument("stroke(0, 1023, 1023)", () -> shop.stroke(0, 1023, 1023));
        Check.is("strokes after that", shop.ofDrawing(0, 1), 0);
        Check.rectangleIn(shop, 0, 2, 2);
        Check.noState("stroke when FINE", () -> shop.stroke(0, 0, 1));
    }

    private static void strokeRefusesInOrder() {
        Kerfworks shop = new Kerfworks();
        Check.rectangle(shop, 2, 2);
        Check.noPlace("no point before both are one", () -> shop.stroke(0, 1024, 1024));
        Check.noPlace("no point before not OPEN", () -> shop.stroke(0, 0, -1));
        Check.noPlace("no drawing before both are one", () -> shop.stroke(1, 7, 7));
        Check.noArgument("both are one before not OPEN", () -> shop.stroke(0, 7, 7));
    }

    private static void finishGoesBackWithTheFirstPoint() {
        Kerfworks shop = new Kerfworks();
        shop.drawing();
        Check.is("finish without strokes", shop.finish(0), 1024);
        shop.stroke(0, Check.at(0, 9), Check.at(30, 2));
        Check.is("the least y goes first", shop.finish(0), Check.at(30, 2));
        shop.stroke(0, Check.at(0, 9), Check.at(7, 2));
        Check.is("then the least x", shop.finish(0), Check.at(7, 2));
        shop.stroke(0, Check.at(7, 2), Check.at(30, 2));
        Check.is("a triangle", shop.finish(0), -1);
        Check.is("is FINE", shop.ofDrawing(0, 0), Kerfworks.FINE);

        shop.drawing();
        int[] square = {Check.at(4, 4), Check.at(6, 4), Check.at(6, 6), Check.at(4, 6)};
        for (int i = 0; i < 4; i++) {
            shop.stroke(1, square[i], square[(i + 1) % 4]);
        }
        shop.stroke(1, square[1], square[3]);
        Check.is("three strokes at a point", shop.finish(1), square[1]);
        Check.is("stays OPEN", shop.ofDrawing(1, 0), Kerfworks.OPEN);

        shop.drawing();
        shop.stroke(2, Check.at(0, 0), Check.at(1, 0));
        shop.stroke(2, Check.at(1, 0), Check.at(1, 1));
        shop.stroke(2, Check.at(1, 1), Check.at(0, 0));
        shop.stroke(2, Check.at(1, 1), Check.at(2, 1));
        shop.stroke(2, Check.at(2, 1), Check.at(2, 2));
        shop.stroke(2, Check.at(2, 2), Check.at(1, 1));
        Check.is("four strokes at a point", shop.finish(2), Check.at(1, 1));

        shop.drawing();
        shop.stroke(3, 0, 1);
        shop.stroke(3, 1, 32);
        shop.stroke(3, 32, 0);
        shop.stroke(3, 1023, 1022);
        shop.stroke(3, 1022, 991);
        shop.stroke(3, 991, 1023);
        Check.is("two figures", shop.finish(3), -1);

        shop.drawing();
        shop.stroke(4, 1022, 1023);
        Check.is("the last points", shop.finish(4), 1022);
    }

    private static void finishDropsDoubledStrokes() {
        Kerfworks shop = new Kerfworks();
        shop.drawing();
        shop.stroke(0, 3, 4);
        shop.stroke(0, 4, 3);
        shop.stroke(0, 3, 4);
        Check.is("doubled strokes close nothing", shop.finish(0), 3);
        Check.is("one is left though it goes back", shop.ofDrawing(0, 1), 1);
        Check.is("it is OPEN", shop.ofDrawing(0, 0), Kerfworks.OPEN);
        Check.isFloat("its length", shop.length(0), 1f);
        shop.stroke(0, 4, 36);
        shop.stroke(0, 36, 3);
        shop.stroke(0, 36, 4);
        shop.stroke(0, 3, 36);
        Check.is("strokes before finish", shop.ofDrawing(0, 1), 5);
        Check.is("doubled strokes harm nothing", shop.finish(0), -1);
        Check.is("strokes after finish", shop.ofDrawing(0, 1), 3);
    }

    /** The floats of these strokes have another sum if the later one of the doubled ones is kept. */
    private static void finishKeepsTheEarlierOfDoubledStrokes() {
        int[] ends = {Check.at(28, 5), Check.at(0, 12), Check.at(5, 24), Check.at(12, 14), Check.at(10, 27)};
        Kerfworks shop = new Kerfworks();
        shop.drawing();
        for (int end : ends) {
            shop.stroke(0, 0, end);
        }
        shop.stroke(0, ends[0], 0);
        shop.stroke(0, 0, ends[2]);
        shop.finish(0);
        Check.is("strokes", shop.ofDrawing(0, 1), 5);
        float due = 0;
        for (int end : ends) {
            due += distance(end % 32, end / 32);
        }
        Check.isFloat("length in the order of the earlier ones", shop.length(0), due);
        float other = 0;
        for (int i : new int[] {1, 3, 4, 0, 2}) {
            other += distance(ends[i] % 32, ends[i] / 32);
        }
        Check.isTrue("the example can tell the orders apart", due != other);
    }

    private static void finishRefuses() {
        Kerfworks shop = new Kerfworks();
        Check.noPlace("finish(0) without one", () -> shop.finish(0));
        Check.rectangle(shop, 3, 2);
        Check.noPlace("finish(-1)", () -> shop.finish(-1));
        Check.noPlace("finish(1)", () -> shop.finish(1));
        Check.noState("finish when FINE", () -> shop.finish(0));
        Check.is("it is FINE still", shop.ofDrawing(0, 0), Kerfworks.FINE);
    }

    private static void redraw() {
        Kerfworks shop = new Kerfworks();
        Check.noPlace("redraw(0) without one", () -> shop.redraw(0));
        shop.drawing();
        Check.noState("redraw of a new one", () -> shop.redraw(0));
        Check.rectangleIn(shop, 0, 3, 2);
        Check.noPlace("redraw(-1)", () -> shop.redraw(-1));
        Check.noPlace("redraw(1)", () -> shop.redraw(1));
        for (int version = 1; version <= 3; version++) {
            Check.is("redraw without jobs", shop.redraw(0), 0);
            Check.is("it is OPEN", shop.ofDrawing(0, 0), Kerfworks.OPEN);
            Check.is("no strokes", shop.ofDrawing(0, 1), 0);
            Check.is("no width", shop.ofDrawing(0, 2), 0);
            Check.is("no height", shop.ofDrawing(0, 3), 0);
            Check.is("version", shop.ofDrawing(0, 4), version);
            Check.isFloat("no length", shop.length(0), 0f);
            Check.noState("redraw again", () -> shop.redraw(0));
            Check.is("finish without strokes", shop.finish(0), 1024);
            Check.rectangleIn(shop, 0, 4, 5);
            Check.is("version when FINE", shop.ofDrawing(0, 4), version);
        }
    }

    private static void ofDrawing() {
        Kerfworks shop = new Kerfworks();
        shop.drawing();
        shop.stroke(0, Check.at(3, 20), Check.at(9, 4));
        Check.is("width when OPEN", shop.ofDrawing(0, 2), 7);
        Check.is("height when OPEN", shop.ofDrawing(0, 3), 17);
        shop.stroke(0, Check.at(9, 4), Check.at(31, 4));
        Check.is("width", shop.ofDrawing(0, 2), 29);
        Check.is("height", shop.ofDrawing(0, 3), 17);
        shop.stroke(0, Check.at(0, 31), Check.at(1, 0));
        Check.is("the greatest width", shop.ofDrawing(0, 2), 32);
        Check.is("the greatest height", shop.ofDrawing(0, 3), 32);
        Check.is("strokes", shop.ofDrawing(0, 1), 3);
        shop.drawing();
        shop.stroke(1, Check.at(5, 7), Check.at(5, 9));
        Check.is("width of an upright line", shop.ofDrawing(1, 2), 1);
        Check.is("height of an upright line", shop.ofDrawing(1, 3), 3);
        for (int what : new int[] {-1, 5, Integer.MAX_VALUE, Integer.MIN_VALUE}) {
            Check.noArgument("ofDrawing(0, " + what + ")", () -> shop.ofDrawing(0, what));
            Check.noPlace("no drawing first", () -> shop.ofDrawing(2, what));
            Check.noPlace("no drawing", () -> shop.ofDrawing(what == 5 ? 2 : what, 0));
            Check.noPlace("length of no drawing", () -> shop.length(what == 5 ? 2 : what));
        }
    }

    private static void lengthOfEachStroke() {
        for (int x = 0; x < 32; x++) {
            for (int y = x == 0 ? 1 : 0; y < 32; y++) {
                Kerfworks shop = new Kerfworks();
                shop.drawing();
                shop.stroke(0, 0, Check.at(x, y));
                Check.isFloat("length over " + x + ", " + y, shop.length(0), distance(x, y));
                shop.drawing();
                shop.stroke(1, Check.at(0, 31), Check.at(x, 31 - y));
                Check.isFloat("length up " + x + ", " + y, shop.length(1), distance(x, y));
            }
        }
    }

    private static void lengthIsSummedInOrderAsFloats() {
        Kerfworks shop = new Kerfworks();
        shop.drawing();
        float floats = 0;
        double doubles = 0;
        for (int i = 1; i <= 24; i++) {
            int x = (3 * i) % 32;
            int y = (7 * i) % 32;
            shop.stroke(0, 0, Check.at(x, y));
            floats += distance(x, y);
            doubles += Math.sqrt(x * x + y * y);
            Check.isFloat("length of " + i + " strokes", shop.length(0), floats);
        }
        Check.isTrue("the example can tell floats from doubles", floats != (float) doubles);
    }

    private static float distance(int x, int y) {
        return (float) Math.sqrt(x * x + y * y);
    }
}
