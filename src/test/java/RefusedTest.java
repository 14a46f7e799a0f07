import java.util.function.Consumer;
import java.util.function.Supplier;

/**
 * "A method that throws an exception changes nothing. If several exceptions apply, the one that is documented
 * first is thrown": each call that is refused, with all that the shop answers before it and after it. Calls
 * that only ask change nothing either.
 */
public final class RefusedTest {
    private static final Class<IndexOutOfBoundsException> PLACE = IndexOutOfBoundsException.class;
    private static final Class<IllegalArgumentException> ARGUMENT = IllegalArgumentException.class;
    private static final Class<IllegalStateException> STATE = IllegalStateException.class;
    private static final int MIN = Integer.MIN_VALUE;
    private static final int MAX = Integer.MAX_VALUE;

    private final String kind;
    private final Supplier<Kerfworks> made;
    private final String before;

    private RefusedTest(String kind, Supplier<Kerfworks> made) {
        this.kind = kind;
        this.made = made;
        before = Shops.answers(made, shop -> { });
    }

    public static void main(String[] args) {
        answersTellChanges();
        new RefusedTest("new", Kerfworks::new).emptyShop();
        new RefusedTest("all kinds", Shops::ofAllKinds).shopOfAllKinds();
        new RefusedTest("full", Shops::full).fullShop();
        new RefusedTest("400 pieces", Shops::fullOfPieces).shopFullOfPieces();
        new RefusedTest("one would fit", Shops::wouldFit).jobsThatWouldFit();
        Check.end();
    }

    private void refuses(Class<?> due, String call, Consumer<Kerfworks> act) {
        String told = kind + ": " + call;
        Kerfworks shop = made.get();
        Check.fails(told, due, () -> act.accept(shop));
        String after = Shops.answers(made, other -> {
            try {
                act.accept(other);
            } catch (IndexOutOfBoundsException | IllegalArgumentException | IllegalStateException e) {
                return;
            }
            Check.isTrue(told + " threw nothing", false);
        });
        Check.isTrue(told + " changed something", after.equals(before));
    }

    private void keeps(String call, Consumer<Kerfworks> act) {
        Check.isTrue(kind + ": " + call + " changed something", Shops.answers(made, act).equals(before));
    }

    private static void answersTellChanges() {
        String before = Shops.answers(Shops::ofAllKinds, shop -> { });
        Check.isTrue("a stroke is told",
            !before.equals(Shops.answers(Shops::ofAllKinds, shop -> shop.stroke(4, 0, 1))));
        Check.isTrue("a drawing is told",
            !before.equals(Shops.answers(Shops::ofAllKinds, shop -> shop.drawing())));
        Check.isTrue("a sheet is told",
            !before.equals(Shops.answers(Shops::ofAllKinds, shop -> shop.sheet(1, 1))));
        Check.isTrue("a job is told",
            !before.equals(Shops.answers(Shops::ofAllKinds, shop -> shop.job(1, 1))));
        Check.isTrue("a cut is told",
            !before.equals(Shops.answers(Shops::ofAllKinds, shop -> shop.cut(1))));
        Check.isTrue("a version is told",
            !before.equals(Shops.answers(Shops::ofAllKinds, shop -> {
                shop.redraw(0);
                Check.rectangleIn(shop, 0, 2, 2);
            })));
    }

    private void emptyShop() {
        for (int number : new int[] {0, -1, 1, 11, 12, MIN, MAX}) {
            noDrawing(number);
        }
        for (int number : new int[] {0, -1, 1, 29, 30, MIN, MAX}) {
            noJob(number);
        }
        sheetsOutOfRange();
        placesBelow0();
    }

    private void noDrawing(int number) {
        String of = "(" + number + ", ..)";
        refuses(PLACE, "stroke" + of, shop -> shop.stroke(number, 0, 1));
        refuses(PLACE, "stroke, both points one" + of, shop -> shop.stroke(number, 7, 7));
        refuses(PLACE, "stroke, no point" + of, shop -> shop.stroke(number, 1024, -1));
        refuses(PLACE, "finish" + of, shop -> shop.finish(number));
        refuses(PLACE, "redraw" + of, shop -> shop.redraw(number));
        refuses(PLACE, "length" + of, shop -> shop.length(number));
        for (int what : new int[] {0, 4, -1, 5, MIN, MAX}) {
            refuses(PLACE, "ofDrawing" + of + what, shop -> shop.ofDrawing(number, what));
        }
        for (int copies : new int[] {1, 6, 0, 7, MIN, MAX}) {
            refuses(PLACE, "job" + of + copies, shop -> shop.job(number, copies));
        }
    }

    private void noJob(int number) {
        String of = "(" + number + ", ..)";
        refuses(PLACE, "cancel" + of, shop -> shop.cancel(number));
        refuses(PLACE, "cut" + of, shop -> shop.cut(number));
        for (int what : new int[] {0, 3, -1, 4, MIN, MAX}) {
            refuses(PLACE, "ofJob" + of + what, shop -> shop.ofJob(number, what));
            refuses(PLACE, "where" + of + what, shop -> shop.where(number, 0, what));
            refuses(PLACE, "where, no copy" + of + what, shop -> shop.where(number, -1, what));
        }
    }

    private void sheetsOutOfRange() {
        for (int side : new int[] {0, 65, -1, MIN, MAX}) {
            refuses(ARGUMENT, "sheet(" + side + ", 1)", shop -> shop.sheet(side, 1));
            refuses(ARGUMENT, "sheet(64, " + side + ")", shop -> shop.sheet(64, side));
            refuses(ARGUMENT, "sheet, both " + side, shop -> shop.sheet(side, side));
        }
    }

    private void placesBelow0() {
        refuses(PLACE, "free(-1)", shop -> shop.free(-1));
        refuses(PLACE, "free(min)", shop -> shop.free(MIN));
    }

    private void shopOfAllKinds() {
        for (int number : new int[] {-1, 5, 12, MIN, MAX}) {
            noDrawing(number);
            noJob(number);
        }
        sheetsOutOfRange();
        placesBelow0();
        strokesOfAllKinds();
        drawingsOfAllKinds();
        jobsOfAllKinds();
        placesOfAllKinds();
    }

    /** Drawings 0 and 1 are FINE, 2, 3 and 4 OPEN, 4 without strokes. */
    private void strokesOfAllKinds() {
        for (int drawing = 0; drawing <= 4; drawing++) {
            int number = drawing;
            String of = "(" + number + ", ..)";
            for (int point : new int[] {-1, 1024, MIN, MAX}) {
                refuses(PLACE, "stroke from " + point + of, shop -> shop.stroke(number, point, 1));
                refuses(PLACE, "stroke to " + point + of, shop -> shop.stroke(number, 1, point));
                refuses(PLACE, "stroke both " + point + of, shop -> shop.stroke(number, point, point));
            }
            for (int point : new int[] {0, 31, 32, 1023}) {
                refuses(ARGUMENT, "stroke both " + point + of, shop -> shop.stroke(number, point, point));
            }
        }
        for (int drawing = 0; drawing <= 1; drawing++) {
            int number = drawing;
            refuses(STATE, "stroke when FINE", shop -> shop.stroke(number, 0, 1));
            refuses(STATE, "stroke when FINE", shop -> shop.stroke(number, 1023, 0));
        }
    }

    private void drawingsOfAllKinds() {
        for (int drawing = 0; drawing <= 1; drawing++) {
            int number = drawing;
            refuses(STATE, "finish when FINE", shop -> shop.finish(number));
        }
        for (int drawing = 2; drawing <= 4; drawing++) {
            int number = drawing;
            refuses(STATE, "redraw when OPEN", shop -> shop.redraw(number));
            refuses(STATE, "job when OPEN", shop -> shop.job(number, 1));
            refuses(STATE, "job when OPEN", shop -> shop.job(number, 6));
        }
        for (int drawing = 0; drawing <= 4; drawing++) {
            int number = drawing;
            for (int what : new int[] {-1, 5, MIN, MAX}) {
                refuses(ARGUMENT, "ofDrawing, " + what, shop -> shop.ofDrawing(number, what));
            }
            for (int copies : new int[] {0, 7, -1, MIN, MAX}) {
                refuses(ARGUMENT, "job, FINE or OPEN, " + copies, shop -> shop.job(number, copies));
            }
        }
    }

    /** Each job's number is how it is; 4 WAITS, too. */
    private void jobsOfAllKinds() {
        for (int job = 0; job <= 4; job++) {
            int number = job;
            for (int what : new int[] {-1, 4, MIN, MAX}) {
                refuses(ARGUMENT, "ofJob(" + number + ", " + what + ")", shop -> shop.ofJob(number, what));
            }
            if (job != Kerfworks.NESTED) {
                refuses(STATE, "cut(" + number + ")", shop -> shop.cut(number));
            }
        }
        refuses(STATE, "cancel of a CUT job", shop -> shop.cancel(Kerfworks.CUT));
        refuses(STATE, "cancel of a CANCELLED job", shop -> shop.cancel(Kerfworks.CANCELLED));
    }

    /** Job i has i + 1 copies. */
    private void placesOfAllKinds() {
        for (int job = 0; job <= 4; job++) {
            int number = job;
            for (int copy : new int[] {job + 1, -1, 6, MIN, MAX}) {
                String of = "where(" + job + ", " + copy + ", ..)";
                refuses(PLACE, of, shop -> shop.where(number, copy, 0));
                refuses(PLACE, of + "-1", shop -> shop.where(number, copy, -1));
                refuses(PLACE, of + "4", shop -> shop.where(number, copy, 4));
            }
            for (int what : new int[] {-1, 4, MIN, MAX}) {
                refuses(ARGUMENT, "where first, " + what, shop -> shop.where(number, 0, what));
                refuses(ARGUMENT, "where last, " + what, shop -> shop.where(number, number, what));
            }
        }
    }

    private void fullShop() {
        refuses(STATE, "the 13th drawing", shop -> shop.drawing());
        noDrawing(12);
        noJob(30);
        sheetsOutOfRange();
        refuses(STATE, "the 9th sheet", shop -> shop.sheet(1, 1));
        refuses(STATE, "the 9th sheet", shop -> shop.sheet(64, 64));
        refuses(STATE, "the 25th stroke", shop -> shop.stroke(1, 100, 200));
        refuses(STATE, "the 25th stroke, doubled", shop -> shop.stroke(1, 0, 1));
        refuses(ARGUMENT, "the 25th stroke, both one", shop -> shop.stroke(1, 9, 9));
        refuses(PLACE, "the 25th stroke, from no point", shop -> shop.stroke(1, 1024, 9));
        refuses(PLACE, "the 25th stroke, to no point", shop -> shop.stroke(1, 9, -1));
        refuses(STATE, "the 31st job", shop -> shop.job(0, 1));
        refuses(STATE, "the 31st job, of an OPEN one", shop -> shop.job(11, 6));
        refuses(ARGUMENT, "the 31st job, no copy", shop -> shop.job(0, 0));
        refuses(ARGUMENT, "the 31st job, seven copies", shop -> shop.job(11, 7));
        refuses(PLACE, "the 31st job, no drawing", shop -> shop.job(-1, 7));
    }

    private void shopFullOfPieces() {
        sheetsOutOfRange();
        refuses(STATE, "sheet(1, 1)", shop -> shop.sheet(1, 1));
        refuses(STATE, "sheet(64, 64)", shop -> shop.sheet(64, 64));
        refuses(STATE, "cut of the one that waits", shop -> shop.cut(5));
        refuses(STATE, "cancel of the CUT one", shop -> shop.cancel(4));
    }

    /** A job that would be nested if it were tried tells a call that tries those that WAIT without being asked. */
    private void jobsThatWouldFit() {
        int open = 4;
        refuses(PLACE, "stroke", shop -> shop.stroke(open, 0, 1024));
        refuses(ARGUMENT, "stroke", shop -> shop.stroke(open, 5, 5));
        refuses(STATE, "stroke", shop -> shop.stroke(3, 0, 1));
        refuses(PLACE, "finish", shop -> shop.finish(5));
        refuses(STATE, "finish", shop -> shop.finish(3));
        refuses(PLACE, "redraw", shop -> shop.redraw(5));
        refuses(STATE, "redraw", shop -> shop.redraw(open));
        refuses(ARGUMENT, "ofDrawing", shop -> shop.ofDrawing(3, 5));
        refuses(ARGUMENT, "sheet", shop -> shop.sheet(65, 64));
        refuses(ARGUMENT, "sheet", shop -> shop.sheet(64, 0));
        refuses(ARGUMENT, "job", shop -> shop.job(3, 7));
        refuses(STATE, "job", shop -> shop.job(open, 1));
        refuses(PLACE, "cancel", shop -> shop.cancel(8));
        refuses(STATE, "cancel", shop -> shop.cancel(Shops.FILLS));
        refuses(STATE, "cancel", shop -> shop.cancel(0));
        refuses(PLACE, "cut", shop -> shop.cut(-1));
        refuses(STATE, "cut", shop -> shop.cut(Shops.WOULD_FIT));
        refuses(ARGUMENT, "where", shop -> shop.where(Shops.LAST, 0, 4));
        asksOnly();
    }

    private void asksOnly() {
        keeps("ofDrawing", shop -> shop.ofDrawing(4, 1));
        keeps("length", shop -> shop.length(4));
        keeps("ofJob", shop -> shop.ofJob(Shops.WOULD_FIT, 0));
        keeps("where", shop -> shop.where(Shops.LAST, 0, 3));
        keeps("free", shop -> shop.free(0));
        keeps("free of no piece", shop -> shop.free(MAX));
        keeps("minutes", shop -> shop.minutes());
        keeps("cutLength", shop -> shop.cutLength());
        keeps("cutAnew", shop -> shop.cutAnew());
    }
}
