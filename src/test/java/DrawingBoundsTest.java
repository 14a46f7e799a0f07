/** Each sentence of "DRAWINGS" and of promises 2 to 7, at the last value that is allowed and the first that is not. */
public final class DrawingBoundsTest {
    private DrawingBoundsTest() {
    }

    public static void main(String[] args) {
        drawingsAreNumberedFrom0();
        atMostTwelveDrawings();
        drawingsThatChangedCountStill();
        aDrawingIsOpenAtFirst();
        atMost24Strokes();
        atMost24StrokesWhenOpenedAgain();
        doubledOnesCountUntilTheyAreDropped();
        pointsFrom0To31();
        pointsOfTheGrid();
        strokesFromOnePointToAnotherOne();
        strokesOfOtherDrawingsAreApart();
        doubledInWhateverOrder();
        doubledOnlyWithBothPoints();
        doubledOnesAreDroppedWhenItGoesBack();
        finishWithoutAStroke();
        eachPointHasJustTwoStrokes();
        fineWithTheFewestStrokes();
        fineWithAllStrokes();
        crossingsAreNoPoints();
        goesBackByRows();
        goesBackByX();
        goesBackWithTheOnlySuchPoint();
        goesBackAgain();
        lengthOfAStroke();
        lengthWithAndWithoutDoubledOnes();
        sizeOfOneStroke();
        sizeOfTheWholeGrid();
        sizeAwayFromTheEdges();
        versionsFrom0();
        Check.end();
    }

    private static int at(int x, int y) {
        return Check.at(x, y);
    }

    private static Kerfworks withDrawing() {
        Kerfworks shop = new Kerfworks();
        shop.drawing();
        return shop;
    }

    /** Draws strokes through the points, and from the last one to the first one. */
    private static void draw(Kerfworks shop, int drawing, int... points) {
        for (int i = 0; i < points.length; i++) {
            shop.stroke(drawing, points[i], points[(i + 1) % points.length]);
        }
    }

    /** Draws strokes through the points; they are not closed. */
    private static void line(Kerfworks shop, int drawing, int... points) {
        for (int i = 1; i < points.length; i++) {
            shop.stroke(drawing, points[i - 1], points[i]);
        }
    }

    private static void drawingsAreNumberedFrom0() {
        Kerfworks shop = new Kerfworks();
        Check.noPlace("no drawing 0 yet", () -> shop.finish(0));
        Check.is("the first", shop.drawing(), 0);
        Check.noPlace("no drawing 1 yet", () -> shop.finish(1));
        Check.is("the second", shop.drawing(), 1);
        Check.is("drawing 1 is there", shop.finish(1), 1024);
    }

    private static void atMostTwelveDrawings() {
        Kerfworks shop = new Kerfworks();
        for (int i = 0; i < 11; i++) {
            shop.drawing();
        }
        Check.is("the 12th", shop.drawing(), 11);
        Check.noState("the 13th", () -> shop.drawing());
        Check.noState("the 13th again", () -> shop.drawing());
        Check.noPlace("no drawing 12", () -> shop.ofDrawing(12, 0));
        Check.rectangleIn(shop, 11, 2, 2);
        Check.rectangleIn(shop, 0, 3, 3);
        Check.is("the 12th is as good as others", shop.job(11, 1), 0);
        Check.is("its job", shop.ofJob(0, 1), 11);
        Check.is("the first, too", shop.job(0, 1), 1);
        Check.is("redraw of the 12th", shop.redraw(11), 0);
    }

    private static void drawingsThatChangedCountStill() {
        Kerfworks shop = new Kerfworks();
        for (int i = 0; i < 12; i++) {
            Check.rectangle(shop, 2, 2);
        }
        Check.noState("when all are FINE", () -> shop.drawing());
        for (int i = 0; i < 12; i++) {
            shop.redraw(i);
        }
        Check.noState("when all are OPEN again", () -> shop.drawing());
    }

    private static void aDrawingIsOpenAtFirst() {
        Kerfworks shop = withDrawing();
        Check.is("OPEN", shop.ofDrawing(0, 0), Kerfworks.OPEN);
        Check.noState("no redraw", () -> shop.redraw(0));
        Check.noState("no job", () -> shop.job(0, 1));
        Check.is("a stroke", shop.stroke(0, 0, 1), 1);
        Check.is("OPEN still", shop.ofDrawing(0, 0), Kerfworks.OPEN);
        Check.noState("no redraw with a stroke", () -> shop.redraw(0));
    }

    private static void atMost24Strokes() {
        Kerfworks shop = withDrawing();
        for (int i = 0; i < 23; i++) {
            Check.is("a stroke", shop.stroke(0, i, i + 1), i + 1);
        }
        Check.is("the 24th", shop.stroke(0, 23, 24), 24);
        Check.noState("the 25th", () -> shop.stroke(0, 24, 25));
        Check.is("24 of them", shop.ofDrawing(0, 1), 24);
        Check.is("wide", shop.ofDrawing(0, 2), 25);
        Check.isFloat("long", shop.length(0), 24f);
        Check.is("it goes back", shop.finish(0), 0);
        Check.noState("the 25th after it", () -> shop.stroke(0, 24, 25));
    }

    private static void atMost24StrokesWhenOpenedAgain() {
        Kerfworks shop = withDrawing();
        for (int version = 0; version < 2; version++) {
            for (int i = 0; i < 24; i++) {
                Check.is("a stroke", shop.stroke(0, corner(i), corner(i + 1)), i + 1);
            }
            Check.noState("the 25th", () -> shop.stroke(0, 500, 501));
            Check.is("FINE with 24", shop.finish(0), -1);
            Check.is("redraw", shop.redraw(0), 0);
            Check.is("without strokes", shop.ofDrawing(0, 1), 0);
        }
    }

    /** The corners of a polygon of 24 points. */
    private static int corner(int i) {
        int along = i % 24;
        return along < 12 ? at(along, along % 2) : at(23 - along, 30 + along % 2);
    }

    private static void doubledOnesCountUntilTheyAreDropped() {
        Kerfworks shop = withDrawing();
        for (int i = 1; i <= 24; i++) {
            Check.is("doubled ones count", shop.stroke(0, i % 2, 1 - i % 2), i);
        }
        Check.noState("the 25th", () -> shop.stroke(0, 5, 6));
        Check.is("it goes back", shop.finish(0), 0);
        Check.is("one is left", shop.ofDrawing(0, 1), 1);
        for (int i = 2; i <= 24; i++) {
            Check.is("there is room again", shop.stroke(0, 100, 200), i);
        }
        Check.noState("the 25th again", () -> shop.stroke(0, 5, 6));
    }

    private static void pointsFrom0To31() {
        for (int last : new int[] {1, 31, 32, 992, 1022, 1023}) {
            Kerfworks shop = withDrawing();
            Check.is("from 0 to " + last, shop.stroke(0, 0, last), 1);
            Check.is("from " + last + " to 0", shop.stroke(0, last, 0), 2);
        }
        Kerfworks shop = withDrawing();
        for (int none : new int[] {-1, 1024, -1024, 1025, Integer.MIN_VALUE, Integer.MAX_VALUE}) {
            Check.noPlace("from " + none, () -> shop.stroke(0, none, 0));
            Check.noPlace("to " + none, () -> shop.stroke(0, 0, none));
            Check.noPlace("from and to " + none, () -> shop.stroke(0, none, none));
        }
        Check.is("none was drawn", shop.ofDrawing(0, 1), 0);
    }

    /** A point is 32 times y and x: 31 is the end of the first row, 32 begins the second one. */
    private static void pointsOfTheGrid() {
        Kerfworks shop = withDrawing();
        shop.stroke(0, 31, 32);
        Check.is("wide", shop.ofDrawing(0, 2), 32);
        Check.is("high", shop.ofDrawing(0, 3), 2);
        shop.drawing();
        shop.stroke(1, 31, 63);
        Check.is("wide in a column", shop.ofDrawing(1, 2), 1);
        Check.is("high in a column", shop.ofDrawing(1, 3), 2);
        shop.drawing();
        shop.stroke(2, 992, 1023);
        Check.is("wide in the last row", shop.ofDrawing(2, 2), 32);
        Check.is("high in the last row", shop.ofDrawing(2, 3), 1);
    }

    private static void strokesFromOnePointToAnotherOne() {
        Kerfworks shop = withDrawing();
        for (int point : new int[] {0, 31, 32, 1023}) {
            Check.noArgument("both are " + point, () -> shop.stroke(0, point, point));
        }
        Check.is("the next point is another one", shop.stroke(0, 31, 32), 1);
        Check.is("the one before, too", shop.stroke(0, 1023, 1022), 2);
    }

    private static void strokesOfOtherDrawingsAreApart() {
        Kerfworks shop = withDrawing();
        Kerfworks another = withDrawing();
        shop.drawing();
        draw(shop, 0, 0, 1, 32);
        shop.stroke(1, 0, 1);
        Check.is("three", shop.ofDrawing(0, 1), 3);
        Check.is("one", shop.ofDrawing(1, 1), 1);
        Check.is("FINE", shop.finish(0), -1);
        Check.is("the other goes back", shop.finish(1), 0);
        Check.is("another shop has none", another.ofDrawing(0, 1), 0);
        Check.is("another shop's goes back", another.finish(0), 1024);
    }

    private static void doubledInWhateverOrder() {
        int[][] again = {{0, 1}, {1, 0}, {1, 32}, {32, 1}, {32, 0}, {0, 32}};
        for (int[] doubled : again) {
            Kerfworks shop = withDrawing();
            draw(shop, 0, 0, 1, 32);
            shop.stroke(0, doubled[0], doubled[1]);
            Check.is("four", shop.ofDrawing(0, 1), 4);
            Check.is("FINE without the doubled one", shop.finish(0), -1);
            Check.is("three", shop.ofDrawing(0, 1), 3);
        }
        Kerfworks shop = withDrawing();
        for (int i = 0; i < 8; i++) {
            draw(shop, 0, i % 2 == 0 ? new int[] {0, 1, 32} : new int[] {0, 32, 1});
        }
        Check.is("24", shop.ofDrawing(0, 1), 24);
        Check.is("each of three eight times", shop.finish(0), -1);
        Check.is("three are left", shop.ofDrawing(0, 1), 3);
    }

    private static void doubledOnlyWithBothPoints() {
        Kerfworks shop = withDrawing();
        shop.stroke(0, 5, 6);
        shop.stroke(0, 5, 7);
        shop.stroke(0, 8, 6);
        shop.stroke(0, 6, 7);
        shop.stroke(0, 8, 5);
        Check.is("three strokes are at 5", shop.finish(0), 5);
        Check.is("none is doubled", shop.ofDrawing(0, 1), 5);
    }

    private static void doubledOnesAreDroppedWhenItGoesBack() {
        Kerfworks shop = withDrawing();
        line(shop, 0, 40, 41, 40, 41, 42);
        Check.is("before", shop.ofDrawing(0, 1), 4);
        Check.is("it goes back", shop.finish(0), 40);
        Check.is("OPEN", shop.ofDrawing(0, 0), Kerfworks.OPEN);
        Check.is("without the doubled ones", shop.ofDrawing(0, 1), 2);
        Check.is("wide", shop.ofDrawing(0, 2), 3);
        shop.stroke(0, 42, 40);
        Check.is("closed", shop.finish(0), -1);
        Check.isFloat("long", shop.length(0), 4f);
    }

    private static void finishWithoutAStroke() {
        Kerfworks shop = withDrawing();
        Check.is("a new one", shop.finish(0), 1024);
        Check.is("again", shop.finish(0), 1024);
        Check.is("OPEN", shop.ofDrawing(0, 0), Kerfworks.OPEN);
        Check.is("version", shop.ofDrawing(0, 4), 0);
        Check.rectangleIn(shop, 0, 2, 2);
        shop.redraw(0);
        Check.is("one opened again", shop.finish(0), 1024);
        Check.is("OPEN again", shop.ofDrawing(0, 0), Kerfworks.OPEN);
    }

    /** One, two, three and four strokes at point 0; all other points have two. */
    private static void eachPointHasJustTwoStrokes() {
        int a = at(5, 5);
        int b = at(9, 6);
        Kerfworks one = withDrawing();
        line(one, 0, 0, a, b);
        Check.is("one", one.finish(0), 0);
        Kerfworks two = withDrawing();
        draw(two, 0, 0, a, b);
        Check.is("two", two.finish(0), -1);
        Kerfworks three = withDrawing();
        draw(three, 0, 0, a, b);
        three.stroke(0, 0, at(20, 20));
        Check.is("three", three.finish(0), 0);
        Kerfworks four = withDrawing();
        draw(four, 0, 0, a, b);
        draw(four, 0, 0, at(20, 20), at(21, 24));
        Check.is("four", four.finish(0), 0);
    }

    private static void fineWithTheFewestStrokes() {
        Kerfworks shop = withDrawing();
        shop.stroke(0, 0, 1);
        Check.is("with one", shop.finish(0), 0);
        shop.stroke(0, 1, 0);
        Check.is("with two, which are doubled", shop.finish(0), 0);
        shop.stroke(0, 1, 32);
        Check.is("with two", shop.finish(0), 0);
        Check.is("OPEN", shop.ofDrawing(0, 0), Kerfworks.OPEN);
        shop.stroke(0, 32, 0);
        Check.is("with three", shop.finish(0), -1);
        Check.is("FINE", shop.ofDrawing(0, 0), Kerfworks.FINE);
        Check.is("strokes", shop.ofDrawing(0, 1), 3);
    }

    private static void fineWithAllStrokes() {
        Kerfworks shop = withDrawing();
        for (int i = 0; i < 8; i++) {
            draw(shop, 0, at(4 * i, 0), at(4 * i + 1, 0), at(4 * i, 1));
        }
        Check.is("24", shop.ofDrawing(0, 1), 24);
        Check.is("eight figures", shop.finish(0), -1);
        Check.is("wide", shop.ofDrawing(0, 2), 30);
        shop.drawing();
        for (int i = 0; i < 23; i++) {
            shop.stroke(1, corner(i), corner(i + 1));
        }
        Check.is("with 23 it is not closed", shop.finish(1), 0);
        shop.stroke(1, corner(23), corner(24));
        Check.is("the 24th closes it", shop.finish(1), -1);
    }

    /** Two strokes cross, and a point lies in the middle of a stroke; both harm nothing. */
    private static void crossingsAreNoPoints() {
        Kerfworks shop = withDrawing();
        draw(shop, 0, at(0, 0), at(4, 4), at(4, 0), at(0, 4));
        Check.is("two strokes cross", shop.finish(0), -1);
        shop.drawing();
        draw(shop, 1, at(0, 0), at(8, 0), at(4, 5));
        draw(shop, 1, at(4, 0), at(3, 9), at(5, 9));
        Check.is("a point in the middle of a stroke", shop.finish(1), -1);
        shop.drawing();
        draw(shop, 2, at(0, 3), at(1, 3), at(2, 3));
        Check.is("all points in a row", shop.finish(2), -1);
        Check.is("wide", shop.ofDrawing(2, 2), 3);
        Check.is("high", shop.ofDrawing(2, 3), 1);
    }

    private static void goesBackByRows() {
        Kerfworks shop = withDrawing();
        shop.stroke(0, at(0, 1), at(31, 0));
        Check.is("the end of row 0 before row 1", shop.finish(0), at(31, 0));
        shop.drawing();
        shop.stroke(1, at(31, 30), at(0, 31));
        Check.is("the end of row 30 before row 31", shop.finish(1), at(31, 30));
    }

    private static void goesBackByX() {
        Kerfworks shop = withDrawing();
        shop.stroke(0, at(8, 5), at(7, 5));
        Check.is("in one row", shop.finish(0), at(7, 5));
        shop.drawing();
        line(shop, 1, at(31, 31), at(2, 2), at(30, 31));
        Check.is("points with two strokes are not told", shop.finish(1), at(30, 31));
    }

    private static void goesBackWithTheOnlySuchPoint() {
        for (int only : new int[] {0, 31, 32, 1023}) {
            Kerfworks shop = withDrawing();
            draw(shop, 0, only, at(4, 8), at(9, 7));
            draw(shop, 0, only, at(14, 8), at(19, 7));
            Check.is("four strokes", shop.finish(0), only);
            Check.is("OPEN", shop.ofDrawing(0, 0), Kerfworks.OPEN);
        }
    }

    private static void goesBackAgain() {
        Kerfworks shop = withDrawing();
        line(shop, 0, 3, 2, 1);
        Check.is("once", shop.finish(0), 1);
        Check.is("twice", shop.finish(0), 1);
        shop.stroke(0, 1, 4);
        Check.is("with the next one", shop.finish(0), 3);
        Check.is("version", shop.ofDrawing(0, 4), 0);
        shop.stroke(0, 4, 3);
        Check.is("FINE at last", shop.finish(0), -1);
        Check.noState("only once", () -> shop.finish(0));
    }

    private static void lengthOfAStroke() {
        int[][] known = {{1, 0, 1}, {0, 1, 1}, {3, 4, 5}, {4, 3, 5}, {31, 0, 31}, {0, 31, 31}, {20, 21, 29}};
        for (int[] one : known) {
            Kerfworks shop = withDrawing();
            Check.isFloat("without strokes", shop.length(0), 0f);
            shop.stroke(0, 0, at(one[0], one[1]));
            Check.isFloat("long", shop.length(0), one[2]);
            shop.stroke(0, at(31, 31), at(31 - one[0], 31 - one[1]));
            Check.isFloat("backward, too", shop.length(0), 2 * one[2]);
        }
        Kerfworks shop = withDrawing();
        shop.stroke(0, 0, 1023);
        Check.isFloat("the longest", shop.length(0), 43.840622f);
        shop.drawing();
        shop.stroke(1, at(0, 1), at(1, 0));
        Check.isFloat("a root", shop.length(1), 1.4142135f);
    }

    private static void lengthWithAndWithoutDoubledOnes() {
        Kerfworks shop = withDrawing();
        draw(shop, 0, at(0, 0), at(3, 0), at(3, 4));
        shop.stroke(0, at(3, 4), at(0, 0));
        Check.isFloat("with the doubled one", shop.length(0), 17f);
        Check.is("finish", shop.finish(0), -1);
        Check.isFloat("without it", shop.length(0), 12f);
    }

    private static void sizeOfOneStroke() {
        Kerfworks shop = withDrawing();
        Check.is("wide without strokes", shop.ofDrawing(0, 2), 0);
        Check.is("high without strokes", shop.ofDrawing(0, 3), 0);
        shop.stroke(0, at(7, 9), at(8, 9));
        Check.is("wide", shop.ofDrawing(0, 2), 2);
        Check.is("high", shop.ofDrawing(0, 3), 1);
        shop.drawing();
        shop.stroke(1, at(7, 9), at(7, 8));
        Check.is("wide when upright", shop.ofDrawing(1, 2), 1);
        Check.is("high when upright", shop.ofDrawing(1, 3), 2);
    }

    private static void sizeOfTheWholeGrid() {
        Kerfworks shop = withDrawing();
        shop.stroke(0, at(0, 15), at(30, 15));
        Check.is("31 wide", shop.ofDrawing(0, 2), 31);
        shop.stroke(0, at(31, 15), at(15, 15));
        Check.is("32 wide", shop.ofDrawing(0, 2), 32);
        Check.is("1 high", shop.ofDrawing(0, 3), 1);
        shop.stroke(0, at(15, 31), at(15, 1));
        Check.is("31 high", shop.ofDrawing(0, 3), 31);
        shop.stroke(0, at(15, 15), at(15, 0));
        Check.is("32 high", shop.ofDrawing(0, 3), 32);
    }

    private static void sizeAwayFromTheEdges() {
        Kerfworks shop = withDrawing();
        draw(shop, 0, at(31, 31), at(27, 31), at(31, 24));
        Check.is("FINE", shop.finish(0), -1);
        Check.is("wide", shop.ofDrawing(0, 2), 5);
        Check.is("high", shop.ofDrawing(0, 3), 8);
        shop.redraw(0);
        Check.is("wide when opened again", shop.ofDrawing(0, 2), 0);
        Check.is("high when opened again", shop.ofDrawing(0, 3), 0);
        shop.stroke(0, at(1, 2), at(2, 2));
        Check.is("wide anew", shop.ofDrawing(0, 2), 2);
        Check.is("high anew", shop.ofDrawing(0, 3), 1);
    }

    private static void versionsFrom0() {
        Kerfworks shop = withDrawing();
        shop.drawing();
        for (int version = 0; version < 40; version++) {
            Check.is("when OPEN", shop.ofDrawing(0, 4), version);
            Check.rectangleIn(shop, 0, 2, 2);
            Check.is("when FINE", shop.ofDrawing(0, 4), version);
            shop.redraw(0);
        }
        Check.is("the other one's", shop.ofDrawing(1, 4), 0);
    }
}
