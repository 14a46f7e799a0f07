/** Each sentence of "JOBS", promises 5, 9 to 12, 15 to 17, at the last value allowed and the first that is not. */
public final class JobBoundsTest {
    private static final int WAITS = Kerfworks.WAITS;
    private static final int NESTED = Kerfworks.NESTED;
    private static final int CUT = Kerfworks.CUT;
    private static final int CANCELLED = Kerfworks.CANCELLED;

    private JobBoundsTest() {
    }

    public static void main(String[] args) {
        jobsAreNumberedFrom0();
        atMost30Jobs();
        from1To6Copies();
        aJobIsTriedAtOnce();
        aJobThatFindsNoPiece();
        allCopiesOrNone();
        triedWhenASheetComes();
        triedWhenOneIsCancelled();
        triedWhenADrawingGetsFine();
        triedWhenADrawingIsOpenedAgain();
        triedAtNothingElse();
        triedByNumbersOnce();
        notTriedWhenTheDrawingIsOpen();
        triedWhenItsDrawingGetsFine();
        cancelledAndCutOnesAreNotTried();
        redrawTakesOffItsJobs();
        redrawTakesOffThoseOnItsSheets();
        redrawOfOneOnSheet7();
        redrawLeavesOtherSheets();
        redrawGoesNotOnward();
        redrawByWhatIsNotNested();
        redrawTriesByNumbers();
        redrawWhenPiecesAreUsedUp();
        cutTellsMinutes();
        minutesBeginAtTens();
        minutesOfFloats();
        minutesForEachCopy();
        heatOfCorners();
        heatOfLongParts();
        heatOfPartsOfSides();
        heatAcrossAGap();
        heatOnTheSameSheetOnly();
        heatOfTheSameJobOnly();
        heatOncePerCopy();
        minutesAreAdded();
        cutOnlyWhenNested();
        cancelTellsHowItWas();
        ofJobTellsVersions();
        whereOfEachState();
        lengthsOfNothing();
        lengthsOncePerCopy();
        lengthsOfLongDrawings();
        lengthsOfDrawingsThatChange();
        Check.end();
    }

    private static int at(int x, int y) {
        return Check.at(x, y);
    }

    private static void state(Kerfworks shop, int job, int due) {
        Check.is("how job " + job + " is", shop.ofJob(job, 0), due);
    }

    private static void place(Kerfworks shop, int job, int copy, int... due) {
        for (int what = 0; what < due.length; what++) {
            Check.is("where(" + job + ", " + copy + ", " + what + ")", shop.where(job, copy, what), due[what]);
        }
    }

    private static void jobsAreNumberedFrom0() {
        Kerfworks shop = new Kerfworks();
        int drawing = Check.rectangle(shop, 2, 2);
        Check.noPlace("no job 0 yet", () -> shop.ofJob(0, 0));
        Check.is("the first", shop.job(drawing, 1), 0);
        Check.noPlace("no job 1 yet", () -> shop.ofJob(1, 0));
        Check.is("the second", shop.job(drawing, 1), 1);
        state(shop, 1, WAITS);
    }

    private static void atMost30Jobs() {
        Kerfworks shop = new Kerfworks();
        int drawing = Check.rectangle(shop, 2, 2);
        shop.sheet(64, 64);
        for (int i = 0; i < 29; i++) {
            Check.is("a job", shop.job(drawing, 1), i);
            if (i % 3 == 0) {
                shop.cancel(i);
            } else if (i % 3 == 1) {
                shop.cut(i);
            }
        }
        Check.is("the 30th", shop.job(drawing, 6), 29);
        state(shop, 29, NESTED);
        Check.noState("the 31st", () -> shop.job(drawing, 1));
        shop.cancel(29);
        Check.noState("the 31st, as numbers are used up", () -> shop.job(drawing, 1));
        Check.noPlace("no job 30", () -> shop.ofJob(30, 0));
        Check.noPlace("no job 30", () -> shop.where(30, 0, 0));
        Check.noPlace("no job 30", () -> shop.cut(30));
        Check.noPlace("no job 30", () -> shop.cancel(30));
    }

    private static void from1To6Copies() {
        Kerfworks shop = new Kerfworks();
        int drawing = Check.rectangle(shop, 2, 2);
        shop.sheet(64, 64);
        for (int copies : new int[] {0, 7, -1, Integer.MIN_VALUE, Integer.MAX_VALUE}) {
            Check.noArgument(copies + " copies", () -> shop.job(drawing, copies));
        }
        for (int copies = 1; copies <= 6; copies++) {
            int job = shop.job(drawing, copies);
            Check.is("number", job, copies - 1);
            Check.is("copies", shop.ofJob(job, 2), copies);
            Check.isTrue("the last copy is laid", shop.where(job, copies - 1, 0) == 0);
            int none = copies;
            Check.noPlace("no copy after it", () -> shop.where(job, none, 0));
        }
    }

    private static void aJobIsTriedAtOnce() {
        Kerfworks shop = new Kerfworks();
        int drawing = Check.rectangle(shop, 2, 2);
        shop.job(drawing, 1);
        state(shop, 0, WAITS);
        shop.sheet(6, 3);
        state(shop, 0, NESTED);
        shop.job(drawing, 1);
        state(shop, 1, NESTED);
        shop.job(drawing, 1);
        state(shop, 2, WAITS);
    }

    private static void aJobThatFindsNoPiece() {
        Kerfworks shop = new Kerfworks();
        int drawing = Check.rectangle(shop, 2, 2);
        shop.sheet(64, 2);
        shop.sheet(2, 64);
        shop.job(drawing, 1);
        state(shop, 0, WAITS);
        Check.is("no version", shop.ofJob(0, 3), -1);
        place(shop, 0, 0, -1, -1, -1, -1);
        Check.is("as before", shop.free(0), 6402);
        Check.is("as before", shop.free(1), 10264);
        Check.is("as before", shop.free(2), -1);
    }

    /** Six places of 3 by 3 for five, six or (two jobs) seven copies. */
    private static void allCopiesOrNone() {
        for (int taken = 0; taken <= 1; taken++) {
            Kerfworks shop = new Kerfworks();
            int drawing = Check.rectangle(shop, 2, 2);
            shop.sheet(9, 6);
            if (taken == 1) {
                shop.job(drawing, 1);
            }
            int six = shop.job(drawing, 6);
            state(shop, six, taken == 0 ? NESTED : WAITS);
            int five = shop.job(drawing, 5);
            state(shop, five, taken == 0 ? WAITS : NESTED);
            Check.is("all is TAKEN", shop.free(0), -1);
        }
    }

    private static void triedWhenASheetComes() {
        Kerfworks shop = Shops.wouldFit();
        state(shop, Shops.WOULD_FIT, WAITS);
        shop.sheet(1, 1);
        state(shop, Shops.WOULD_FIT, NESTED);
        place(shop, Shops.WOULD_FIT, 0, 2, 0, 0, 394);
        place(shop, Shops.WOULD_FIT, 2, 2, 0, 6, 398);
        state(shop, Shops.TOO_BIG, WAITS);
    }

    /** Also one that WAITS itself, and lays nothing free. */
    private static void triedWhenOneIsCancelled() {
        Kerfworks shop = Shops.wouldFit();
        Check.is("cancel", shop.cancel(Shops.TOO_BIG), WAITS);
        state(shop, Shops.WOULD_FIT, NESTED);
        place(shop, Shops.WOULD_FIT, 0, 2, 0, 0, 393);
        Kerfworks nested = new Kerfworks();
        int drawing = Check.rectangle(nested, 2, 2);
        nested.sheet(3, 3);
        nested.job(drawing, 1);
        nested.job(drawing, 1);
        Check.is("cancel", nested.cancel(0), NESTED);
        state(nested, 0, CANCELLED);
        place(nested, 1, 0, 0, 0, 0, 2);
    }

    /** Whichever drawing that is. */
    private static void triedWhenADrawingGetsFine() {
        Kerfworks shop = Shops.wouldFit();
        shop.stroke(4, 33, 0);
        state(shop, Shops.WOULD_FIT, WAITS);
        Check.is("finish", shop.finish(4), -1);
        state(shop, Shops.WOULD_FIT, NESTED);
        place(shop, Shops.WOULD_FIT, 1, 2, 0, 3, 395);
    }

    /** Also when no job is taken off. */
    private static void triedWhenADrawingIsOpenedAgain() {
        Kerfworks shop = Shops.wouldFit();
        Check.is("redraw", shop.redraw(3), 0);
        state(shop, Shops.WOULD_FIT, NESTED);
        place(shop, Shops.WOULD_FIT, 2, 2, 0, 6, 397);
        Kerfworks taken = new Kerfworks();
        int first = Check.rectangle(taken, 2, 2);
        int second = Check.rectangle(taken, 2, 2);
        taken.sheet(3, 3);
        taken.job(first, 1);
        taken.job(second, 1);
        Check.is("redraw", taken.redraw(first), 1);
        state(taken, 0, WAITS);
        place(taken, 1, 0, 0, 0, 0, 2);
    }

    /** Nor by a job that is NESTED: that is how wouldFit() makes one that would fit. */
    private static void triedAtNothingElse() {
        Kerfworks shop = Shops.wouldFit();
        Check.is("drawing", shop.drawing(), 5);
        state(shop, Shops.WOULD_FIT, WAITS);
        Check.is("finish without strokes", shop.finish(5), 1024);
        state(shop, Shops.WOULD_FIT, WAITS);
        Check.is("stroke", shop.stroke(5, 0, 1), 1);
        state(shop, Shops.WOULD_FIT, WAITS);
        Check.is("finish that goes back", shop.finish(4), 0);
        state(shop, Shops.WOULD_FIT, WAITS);
        Check.is("job that WAITS", shop.job(1, 6), 8);
        state(shop, Shops.WOULD_FIT, WAITS);
        Check.is("cut", shop.cut(Shops.LAST), 3);
        state(shop, Shops.WOULD_FIT, WAITS);
        shop.cancel(Shops.TOO_BIG);
        state(shop, Shops.WOULD_FIT, NESTED);
    }

    /** The one that would fit goes first, and doesn't; it is not tried again after the one by which it would. */
    private static void triedByNumbersOnce() {
        Kerfworks shop = Shops.withPiecesAndNoRoom(391);
        int middle = Check.rectangle(shop, 4, 10);
        shop.job(0, 3);
        shop.job(middle, 1);
        state(shop, 6, WAITS);
        shop.redraw(middle);
        shop.sheet(5, 11);
        state(shop, 5, WAITS);
        shop.sheet(3, 19);
        state(shop, 5, WAITS);
        Check.rectangleIn(shop, middle, 4, 10);
        state(shop, 6, NESTED);
        state(shop, 5, WAITS);
        Check.rectangle(shop, 2, 2);
        state(shop, 5, NESTED);
        Kerfworks numbers = new Kerfworks();
        int drawing = Check.rectangle(numbers, 2, 2);
        for (int i = 0; i < 3; i++) {
            numbers.job(drawing, 1);
        }
        numbers.sheet(6, 3);
        place(numbers, 0, 0, 0, 0, 0, 1);
        place(numbers, 1, 0, 0, 3, 0, 3);
        state(numbers, 2, WAITS);
    }

    private static void notTriedWhenTheDrawingIsOpen() {
        Kerfworks shop = new Kerfworks();
        int open = Check.rectangle(shop, 2, 2);
        int other = Check.rectangle(shop, 9, 9);
        shop.job(open, 1);
        shop.job(other, 1);
        shop.redraw(open);
        shop.sheet(5, 5);
        state(shop, 0, WAITS);
        shop.cancel(1);
        state(shop, 0, WAITS);
        Check.is("redraw of another one", shop.redraw(other), 0);
        state(shop, 0, WAITS);
        Check.rectangleIn(shop, other, 9, 9);
        state(shop, 0, WAITS);
        shop.stroke(open, 0, 1);
        Check.is("it goes back", shop.finish(open), 0);
        state(shop, 0, WAITS);
    }

    private static void triedWhenItsDrawingGetsFine() {
        Kerfworks shop = new Kerfworks();
        int drawing = Check.rectangle(shop, 9, 9);
        shop.sheet(5, 4);
        shop.job(drawing, 1);
        state(shop, 0, WAITS);
        shop.redraw(drawing);
        Check.rectangleIn(shop, drawing, 5, 3);
        state(shop, 0, WAITS);
        shop.redraw(drawing);
        Check.rectangleIn(shop, drawing, 4, 3);
        state(shop, 0, NESTED);
        Check.is("for the version now", shop.ofJob(0, 3), 2);
    }

    private static void cancelledAndCutOnesAreNotTried() {
        Kerfworks shop = new Kerfworks();
        int drawing = Check.rectangle(shop, 2, 2);
        shop.job(drawing, 1);
        shop.cancel(0);
        shop.sheet(3, 3);
        state(shop, 0, CANCELLED);
        Check.is("the sheet is FREE", shop.free(0), 303);
        shop.job(drawing, 1);
        shop.cut(1);
        shop.sheet(3, 3);
        place(shop, 1, 0, 0, 0, 0, 1);
        Check.is("the other is FREE", shop.free(0), 10303);
    }

    private static void redrawTakesOffItsJobs() {
        Kerfworks shop = new Kerfworks();
        int drawing = Check.rectangle(shop, 2, 2);
        shop.sheet(20, 20);
        Check.is("without jobs", shop.redraw(drawing), 0);
        Check.rectangleIn(shop, drawing, 2, 2);
        for (int i = 0; i < 3; i++) {
            shop.job(drawing, 1 + i);
        }
        Check.is("all three", shop.redraw(drawing), 3);
        for (int i = 0; i < 3; i++) {
            state(shop, i, WAITS);
            Check.is("no version", shop.ofJob(i, 3), -1);
            place(shop, i, 0, -1, -1, -1, -1);
        }
        Check.is("the sheet is one", shop.free(0), 2020);
        Check.is("the sheet is one", shop.free(1), -1);
        Check.noState("not again", () -> shop.redraw(drawing));
        Check.rectangleIn(shop, drawing, 2, 2);
        for (int i = 0; i < 3; i++) {
            state(shop, i, NESTED);
            Check.is("the version now", shop.ofJob(i, 3), 2);
        }
    }

    /** Jobs 0 and 2 are of the drawing that changes, on sheets 0 and 1, each with another one below. */
    private static void redrawTakesOffThoseOnItsSheets() {
        Kerfworks shop = new Kerfworks();
        int changed = Check.rectangle(shop, 3, 3);
        int other = Check.rectangle(shop, 2, 2);
        shop.sheet(4, 8);
        shop.sheet(4, 8);
        shop.job(changed, 1);
        shop.job(other, 1);
        shop.job(changed, 1);
        shop.job(other, 1);
        place(shop, 0, 0, 0, 0, 0);
        place(shop, 1, 0, 0, 0, 4);
        place(shop, 2, 0, 1, 0, 0);
        place(shop, 3, 0, 1, 0, 4);
        Check.is("two of it and two that share", shop.redraw(changed), 4);
        state(shop, 0, WAITS);
        state(shop, 2, WAITS);
        place(shop, 1, 0, 0, 0, 0);
        place(shop, 3, 0, 0, 0, 3);
        Check.rectangleIn(shop, changed, 3, 3);
        place(shop, 0, 0, 1, 0, 0);
        place(shop, 2, 0, 1, 0, 4);
    }

    private static void redrawOfOneOnSheet7() {
        Kerfworks shop = new Kerfworks();
        int changed = Check.rectangle(shop, 4, 4);
        int other = Check.rectangle(shop, 2, 2);
        for (int i = 0; i < 7; i++) {
            shop.sheet(3, 3);
        }
        shop.job(other, 6);
        shop.sheet(9, 5);
        shop.job(changed, 1);
        shop.job(other, 1);
        shop.job(other, 1);
        place(shop, 1, 0, 7, 0, 0);
        place(shop, 2, 0, 6, 0, 0);
        place(shop, 3, 0, 7, 5, 0);
        int stays = shop.where(0, 0, 3);
        Check.is("the one on sheet 7 is taken off, too", shop.redraw(changed), 2);
        Check.is("those on 0 to 5 stay", shop.where(0, 0, 3), stays);
        place(shop, 2, 0, 6, 0, 0);
        place(shop, 3, 0, 7, 0, 0);
    }

    private static void redrawLeavesOtherSheets() {
        Kerfworks shop = new Kerfworks();
        int changed = Check.rectangle(shop, 3, 3);
        int other = Check.rectangle(shop, 3, 3);
        for (int i = 0; i < 4; i++) {
            shop.sheet(4, 4);
        }
        shop.job(other, 1);
        shop.job(changed, 2);
        shop.job(other, 1);
        int before = shop.where(0, 0, 3);
        int after = shop.where(2, 0, 3);
        Check.is("its own job alone", shop.redraw(changed), 1);
        Check.is("before it", shop.where(0, 0, 3), before);
        Check.is("after it", shop.where(2, 0, 3), after);
        place(shop, 1, 0, -1);
        place(shop, 1, 1, -1);
        Check.is("its first sheet is FREE", shop.free(0), 10404);
        Check.is("its second sheet is FREE", shop.free(1), 20404);
        Check.is("no other", shop.free(2), -1);
    }

    /** Job 1 shares sheet 0 with the changed one, job 2 shares sheet 1 with job 1 alone. */
    private static void redrawGoesNotOnward() {
        Kerfworks shop = new Kerfworks();
        int changed = Check.rectangle(shop, 3, 2);
        int other = Check.rectangle(shop, 2, 2);
        shop.sheet(7, 3);
        shop.sheet(8, 3);
        shop.job(changed, 1);
        shop.job(other, 2);
        shop.job(other, 1);
        place(shop, 0, 0, 0, 0, 0, 2);
        place(shop, 1, 0, 0, 4, 0, 4);
        place(shop, 1, 1, 1, 0, 0, 5);
        place(shop, 2, 0, 1, 3, 0, 7);
        Check.is("two", shop.redraw(changed), 2);
        place(shop, 2, 0, 1, 3, 0, 7);
        place(shop, 1, 0, 1, 0, 0, 9);
        place(shop, 1, 1, 0, 0, 0, 10);
    }

    /** Jobs of the drawing that WAIT, are CUT or CANCELLED are not taken off, and take nothing off. */
    private static void redrawByWhatIsNotNested() {
        Kerfworks shop = new Kerfworks();
        int changed = Check.rectangle(shop, 2, 2);
        int other = Check.rectangle(shop, 3, 2);
        shop.sheet(20, 4);
        shop.job(changed, 1);
        shop.job(other, 1);
        shop.job(changed, 1);
        shop.job(changed, 6);
        shop.cut(0);
        shop.cancel(2);
        state(shop, 3, WAITS);
        int piece = shop.where(1, 0, 3);
        place(shop, 1, 0, 0, 3, 0, 4);
        Check.is("none", shop.redraw(changed), 0);
        Check.is("the other one stays", shop.where(1, 0, 3), piece);
        state(shop, 0, CUT);
        state(shop, 2, CANCELLED);
        state(shop, 3, WAITS);
        Check.is("CUT for its version", shop.ofJob(0, 3), 0);
        Check.is("redraw of the other one", shop.redraw(other), 1);
        state(shop, 0, CUT);
    }

    /** Job 1 waited before, and takes the sheet that job 2 had shared. */
    private static void redrawTriesByNumbers() {
        Kerfworks shop = new Kerfworks();
        int changed = Check.rectangle(shop, 3, 3);
        int big = Check.rectangle(shop, 7, 3);
        int small = Check.rectangle(shop, 2, 2);
        shop.sheet(8, 4);
        shop.job(changed, 1);
        shop.job(big, 1);
        shop.job(small, 1);
        state(shop, 1, WAITS);
        state(shop, 2, NESTED);
        Check.is("two are taken off", shop.redraw(changed), 2);
        state(shop, 0, WAITS);
        state(shop, 1, NESTED);
        state(shop, 2, WAITS);
        Check.is("one is taken off", shop.redraw(big), 1);
        state(shop, 1, WAITS);
        state(shop, 2, NESTED);
    }

    /** Jobs that were taken off find just enough numbers for one, or one too few. */
    private static void redrawWhenPiecesAreUsedUp() {
        for (int pieces = 388; pieces <= 389; pieces++) {
            Kerfworks shop = Shops.withPiecesAndNoRoom(pieces);
            int changed = Check.rectangle(shop, 2, 2);
            shop.sheet(6, 4);
            shop.job(0, 1);
            shop.job(changed, 1);
            place(shop, 5, 0, 1, 0, 0, pieces + 1);
            place(shop, 6, 0, 1, 3, 0, pieces + 4);
            Check.is("both are taken off", shop.redraw(changed), 2);
            place(shop, 5, 0, 1, 0, 0, pieces + 5);
            Check.rectangleIn(shop, changed, 2, 2);
            place(shop, 6, 0, 1, 3, 0, pieces + 8);
            Check.is("both are taken off again", shop.redraw(changed), 2);
            state(shop, 5, pieces == 388 ? NESTED : WAITS);
            Check.is("what is FREE", shop.free(0), pieces == 388 ? 10303 : 10604);
            Check.rectangleIn(shop, changed, 2, 2);
            state(shop, 5, pieces == 388 ? NESTED : WAITS);
            state(shop, 6, WAITS);
        }
    }

    private static int cutOf(int wide, int high, int copies) {
        Kerfworks shop = new Kerfworks();
        int drawing = Check.rectangle(shop, wide, high);
        for (int i = 0; i < 8; i++) {
            shop.sheet(wide + 1, high + 1);
        }
        shop.job(drawing, copies);
        int minutes = shop.cut(0);
        Check.is("all minutes", shop.minutes(), minutes);
        return minutes;
    }

    private static void cutTellsMinutes() {
        Kerfworks shop = new Kerfworks();
        int drawing = Check.rectangle(shop, 2, 2);
        Check.is("no minutes yet", shop.minutes(), 0);
        shop.sheet(3, 3);
        shop.job(drawing, 1);
        Check.is("not by a job", shop.minutes(), 0);
        Check.is("one", shop.cut(0), 1);
        state(shop, 0, CUT);
        Check.is("one", shop.minutes(), 1);
    }

    /** Lengths of 8, 10, 18, 20, 98, 100 and 124. */
    private static void minutesBeginAtTens() {
        Check.is("8", cutOf(3, 3, 1), 1);
        Check.is("10", cutOf(4, 3, 1), 2);
        Check.is("18", cutOf(6, 5, 1), 2);
        Check.is("20", cutOf(6, 6, 1), 3);
        Check.is("98", cutOf(26, 25, 1), 10);
        Check.is("100", cutOf(26, 26, 1), 11);
        Check.is("124", cutOf(32, 32, 1), 13);
    }

    /** The sum of the floats is 80 where that of the doubles is less, and less than 120 where that is more. */
    private static void minutesOfFloats() {
        int[][] across = {{0, 14, 23, 29}, {0, 30, 16, 11, 18, 19}};
        int[][] down = {{0, 17, 21, 3}, {0, 23, 0, 9, 21, 13}};
        int[] minutes = {9, 12};
        for (int i = 0; i < 2; i++) {
            Kerfworks shop = new Kerfworks();
            shop.drawing();
            int points = across[i].length;
            double doubles = 0;
            for (int from = 0; from < points; from++) {
                int to = (from + 1) % points;
                int x = across[i][from] - across[i][to];
                int y = down[i][from] - down[i][to];
                doubles += Math.sqrt(x * x + y * y);
                shop.stroke(0, at(across[i][from], down[i][from]), at(across[i][to], down[i][to]));
            }
            Check.is("finish", shop.finish(0), -1);
            shop.sheet(64, 64);
            shop.job(0, 1);
            Check.is("by floats", shop.cut(0), minutes[i]);
            Check.isTrue("doubles would tell others", (int) (doubles / 10) + 1 != minutes[i]);
        }
    }

    private static void minutesForEachCopy() {
        for (int copies = 1; copies <= 6; copies++) {
            Check.is("short ones", cutOf(3, 3, copies), copies);
            Check.is("long ones", cutOf(4, 3, copies), 2 * copies);
            Check.is("the longest", cutOf(32, 32, copies), 13 * copies);
        }
    }

    private static int heatOfFour(int wide, int high, int one, int other) {
        return heatOfFour(3, 3, new int[] {wide, high}, one, other);
    }

    /** Two of four parts are CUT, then both others are laid for one job. */
    private static int heatOfFour(int partWide, int partHigh, int[] sheet, int one, int other) {
        Kerfworks shop = new Kerfworks();
        int drawing = Check.rectangle(shop, partWide - 1, partHigh - 1);
        shop.sheet(sheet[0], sheet[1]);
        for (int i = 0; i < 4; i++) {
            shop.job(drawing, 1);
        }
        for (int i = 0; i < 4; i++) {
            if (i != one && i != other) {
                shop.cut(i);
            }
        }
        int[] before = {shop.where(one, 0, 1), shop.where(one, 0, 2), shop.where(other, 0, 1), shop.where(other, 0, 2)};
        shop.cancel(other);
        shop.cancel(one);
        shop.job(drawing, 2);
        place(shop, 4, 0, 0, before[0], before[1]);
        place(shop, 4, 1, 0, before[2], before[3]);
        return shop.cut(4);
    }

    private static void heatOfCorners() {
        Check.is("a corner, down to the right", heatOfFour(6, 6, 0, 3), 5);
        Check.is("a corner, down to the left", heatOfFour(6, 6, 1, 2), 5);
        Check.is("a side, upright", heatOfFour(6, 6, 2, 3), 5);
        Check.is("a side, flat", heatOfFour(6, 6, 1, 3), 5);
        Check.is("none in a row", heatOfFour(12, 3, 0, 3), 2);
        Check.is("none in a row", heatOfFour(12, 3, 1, 3), 2);
        Check.is("a side in a row", heatOfFour(12, 3, 2, 3), 5);
        Check.is("none in a column", heatOfFour(3, 12, 0, 2), 2);
        Check.is("none in a column", heatOfFour(3, 12, 0, 3), 2);
        Check.is("a side in a column", heatOfFour(3, 12, 2, 3), 5);
    }

    /** Parts that are far higher than wide, or wider than high, side by side and apart. */
    private static void heatOfLongParts() {
        int[][] parts = {{3, 13}, {13, 3}};
        for (int[] part : parts) {
            int wide = part[0];
            int high = part[1];
            int[] row = {4 * wide, high};
            int[] column = {wide, 4 * high};
            for (int one = 0; one < 4; one++) {
                for (int other = one + 1; other < 4; other++) {
                    int due = other == one + 1 ? 2 * 3 + 3 : 2 * 3;
                    Check.is("in a row", heatOfFour(wide, high, row, one, other), due);
                    Check.is("in a column", heatOfFour(wide, high, column, one, other), due);
                }
            }
        }
    }

    /**
     * Below a part at the left lies one that begins at `shift`: with 2 they have a part of a side in common,
     * with 3 a corner, with 4 and more nothing.
     */
    private static void heatOfPartsOfSides() {
        for (int shift = 3; shift <= 5; shift++) {
            Kerfworks shop = new Kerfworks();
            int part = Check.rectangle(shop, 2, 2);
            int spacer = Check.rectangle(shop, shift - 1, 2);
            shop.sheet(shift + 3, 6);
            shop.job(part, 1);
            shop.job(spacer, 1);
            shop.job(spacer, 1);
            shop.job(part, 1);
            place(shop, 0, 0, 0, 0, 0);
            place(shop, 3, 0, 0, shift, 3);
            shop.cut(1);
            shop.cut(2);
            shop.cancel(0);
            shop.cancel(3);
            shop.job(part, 2);
            place(shop, 4, 0, 0, 0, 0);
            place(shop, 4, 1, 0, shift, 3);
            Check.is("below, shifted by " + shift, shop.cut(4), shift == 3 ? 5 : 2);
        }
    }

    /** One lies at (0, 0), 3 by 3, the other one at (3, 4): one between them, though a corner's x is the same. */
    private static void heatAcrossAGap() {
        Kerfworks shop = new Kerfworks();
        int higher = Check.rectangle(shop, 2, 3);
        int part = Check.rectangle(shop, 2, 2);
        shop.sheet(6, 7);
        shop.job(higher, 1);
        for (int i = 1; i <= 3; i++) {
            shop.job(part, 1);
        }
        shop.cut(1);
        shop.cut(2);
        shop.cancel(0);
        shop.cancel(3);
        shop.job(part, 2);
        place(shop, 4, 0, 0, 3, 4);
        place(shop, 4, 1, 0, 0, 0);
        Check.is("no heat", shop.cut(4), 2);
    }

    /** At the same place of two sheets. */
    private static void heatOnTheSameSheetOnly() {
        Check.is("each on its own sheet", cutOf(2, 2, 6), 6);
        Kerfworks shop = new Kerfworks();
        int drawing = Check.rectangle(shop, 2, 2);
        shop.sheet(6, 3);
        shop.sheet(3, 3);
        shop.job(drawing, 3);
        place(shop, 0, 0, 1, 0, 0);
        place(shop, 0, 1, 0, 0, 0);
        place(shop, 0, 2, 0, 3, 0);
        Check.is("the last two touch", shop.cut(0), 3 + 3);
    }

    private static void heatOfTheSameJobOnly() {
        Kerfworks shop = new Kerfworks();
        int drawing = Check.rectangle(shop, 2, 2);
        shop.sheet(9, 3);
        for (int i = 0; i < 3; i++) {
            shop.job(drawing, 1);
        }
        for (int i = 2; i >= 0; i--) {
            Check.is("all touch those of other jobs", shop.cut(i), 1);
        }
        Check.is("all", shop.minutes(), 3);
    }

    /** In a row each touches the one before; in a block some touch two or three of those before. */
    private static void heatOncePerCopy() {
        int[][] sheets = {{18, 3}, {3, 18}, {9, 6}, {6, 9}};
        for (int[] sheet : sheets) {
            for (int copies = 1; copies <= 6; copies++) {
                Kerfworks shop = new Kerfworks();
                int drawing = Check.rectangle(shop, 2, 2);
                shop.sheet(sheet[0], sheet[1]);
                shop.job(drawing, copies);
                Check.is("all but the first", shop.cut(0), copies + 3 * (copies - 1));
            }
        }
    }

    private static void minutesAreAdded() {
        Kerfworks shop = new Kerfworks();
        int drawing = Check.rectangle(shop, 32, 32);
        int due = 0;
        for (int i = 0; i < 8; i++) {
            shop.sheet(33, 33);
            shop.job(drawing, 1);
            Check.is("as before", shop.minutes(), due);
            Check.is("13 each", shop.cut(i), 13);
            due += 13;
            Check.is("all", shop.minutes(), due);
        }
    }

    private static void cutOnlyWhenNested() {
        Kerfworks shop = new Kerfworks();
        int drawing = Check.rectangle(shop, 2, 2);
        shop.job(drawing, 1);
        Check.noState("WAITS", () -> shop.cut(0));
        shop.sheet(3, 3);
        shop.redraw(drawing);
        Check.noState("WAITS again", () -> shop.cut(0));
        Check.rectangleIn(shop, drawing, 2, 2);
        Check.is("NESTED", shop.cut(0), 1);
        Check.noState("CUT", () -> shop.cut(0));
        shop.job(drawing, 1);
        shop.cancel(1);
        Check.noState("CANCELLED", () -> shop.cut(1));
        Check.is("one minute", shop.minutes(), 1);
    }

    private static void cancelTellsHowItWas() {
        Kerfworks shop = new Kerfworks();
        int drawing = Check.rectangle(shop, 2, 2);
        shop.sheet(6, 3);
        for (int i = 0; i < 3; i++) {
            shop.job(drawing, 1);
        }
        Check.is("one that WAITS", shop.cancel(2), WAITS);
        Check.is("one that is NESTED", shop.cancel(1), NESTED);
        shop.cut(0);
        Check.noState("one that is CUT", () -> shop.cancel(0));
        Check.noState("one that is CANCELLED", () -> shop.cancel(1));
        Check.noState("one that is CANCELLED", () -> shop.cancel(2));
        state(shop, 0, CUT);
        state(shop, 1, CANCELLED);
        state(shop, 2, CANCELLED);
    }

    private static void ofJobTellsVersions() {
        Kerfworks shop = new Kerfworks();
        int drawing = Check.rectangle(shop, 2, 2);
        for (int version = 0; version < 3; version++) {
            shop.sheet(3, 3);
            int job = shop.job(drawing, 1);
            Check.is("NESTED", shop.ofJob(job, 3), version);
            shop.cut(job);
            Check.is("CUT", shop.ofJob(job, 3), version);
            shop.redraw(drawing);
            Check.is("CUT still", shop.ofJob(job, 3), version);
            Check.rectangleIn(shop, drawing, 2, 2);
            Check.is("CUT for good", shop.ofJob(job, 3), version);
            int waits = shop.job(drawing, 1);
            Check.is("WAITS", shop.ofJob(waits, 3), -1);
            shop.cancel(waits);
            Check.is("CANCELLED", shop.ofJob(waits, 3), -1);
        }
        shop.sheet(3, 3);
        int job = shop.job(drawing, 2);
        Check.is("WAITS", shop.ofJob(job, 3), -1);
        shop.sheet(3, 3);
        Check.is("NESTED later", shop.ofJob(job, 3), 3);
        shop.cancel(job);
        Check.is("CANCELLED when it was NESTED", shop.ofJob(job, 3), -1);
        for (int what : new int[] {-1, 4}) {
            Check.noArgument("what " + what, () -> shop.ofJob(0, what));
        }
        Check.is("its drawing", shop.ofJob(job, 1), drawing);
        Check.is("its copies", shop.ofJob(job, 2), 2);
    }

    private static void whereOfEachState() {
        Kerfworks shop = new Kerfworks();
        int drawing = Check.rectangle(shop, 2, 3);
        shop.job(drawing, 2);
        for (int copy = 0; copy < 2; copy++) {
            place(shop, 0, copy, -1, -1, -1, -1);
        }
        shop.sheet(4, 9);
        place(shop, 0, 0, 0, 0, 0, 1);
        place(shop, 0, 1, 0, 0, 4, 4);
        shop.redraw(drawing);
        for (int copy = 0; copy < 2; copy++) {
            place(shop, 0, copy, -1, -1, -1, -1);
        }
        Check.rectangleIn(shop, drawing, 2, 2);
        place(shop, 0, 0, 0, 0, 0, 7);
        place(shop, 0, 1, 0, 0, 3, 10);
        shop.cut(0);
        shop.redraw(drawing);
        place(shop, 0, 0, 0, 0, 0, 7);
        place(shop, 0, 1, 0, 0, 3, 10);
        Check.rectangleIn(shop, drawing, 2, 2);
        shop.job(drawing, 1);
        place(shop, 1, 0, 0, 0, 6, 13);
        shop.cancel(1);
        place(shop, 1, 0, -1, -1, -1, -1);
    }

    private static void lengthsOfNothing() {
        Kerfworks shop = new Kerfworks();
        Check.isFloat("a new shop", shop.cutLength(), 0f);
        Check.isFloat("a new shop", shop.cutAnew(), 0f);
        int drawing = Check.rectangle(shop, 2, 2);
        shop.sheet(9, 9);
        shop.job(drawing, 2);
        Check.isFloat("NESTED is not CUT", shop.cutLength(), 0f);
        Check.isFloat("NESTED is not CUT", shop.cutAnew(), 0f);
        shop.cancel(0);
        Check.isFloat("CANCELLED is not CUT", shop.cutLength(), 0f);
        Check.isFloat("CANCELLED is not CUT", shop.cutAnew(), 0f);
    }

    private static void lengths(Kerfworks shop, float due) {
        Check.isFloat("cutLength", shop.cutLength(), due);
        Check.isFloat("cutAnew", shop.cutAnew(), due);
    }

    /** A triangle with the corner at point 0. */
    private static float triangle(Kerfworks shop, int drawing, int x, int y) {
        shop.stroke(drawing, 0, at(x, 0));
        shop.stroke(drawing, at(x, 0), at(0, y));
        shop.stroke(drawing, at(0, y), 0);
        Check.is("finish of a triangle", shop.finish(drawing), -1);
        return x + (float) Math.sqrt(x * x + y * y) + y;
    }

    /** 30 jobs of six copies: each copy is added to all before, not to those of its job first. */
    private static void lengthsOncePerCopy() {
        Kerfworks shop = new Kerfworks();
        float one = triangle(shop, shop.drawing(), 1, 1);
        shop.sheet(64, 64);
        float due = 0;
        float jobByJob = 0;
        for (int job = 0; job < 30; job++) {
            shop.job(0, 6);
            state(shop, job, NESTED);
            shop.cut(job);
            float ofJob = 0;
            for (int copy = 0; copy < 6; copy++) {
                due += one;
                ofJob += one;
            }
            jobByJob += ofJob;
            lengths(shop, due);
        }
        Check.isTrue("the example tells one from the other", due != jobByJob && due != 180 * one);
    }

    private static void lengthsOfLongDrawings() {
        Kerfworks shop = new Kerfworks();
        shop.drawing();
        float once = 0;
        float backward = 0;
        double doubles = 0;
        for (int i = 0; i < 24; i++) {
            shop.stroke(0, corner(i), corner(i + 1));
            once += distance(corner(i), corner(i + 1));
            backward += distance(corner(23 - i), corner(24 - i));
            doubles += distance(corner(i), corner(i + 1));
        }
        Check.isTrue("the example tells their order", once != backward && once != (float) doubles);
        Check.is("24 strokes", shop.finish(0), -1);
        Check.isFloat("its length", shop.length(0), once);
        shop.sheet(64, 64);
        shop.job(0, 2);
        shop.cut(0);
        lengths(shop, once + once);
        shop.redraw(0);
        lengths(shop, once + once);
        Check.is("another stroke", shop.stroke(0, 1023, 0), 1);
        lengths(shop, once + once);
    }

    /** The corners of a polygon of 24 points, far from one another. */
    private static int corner(int i) {
        int x = 7 * i % 24;
        return at(x, 3 * x * x % 31);
    }

    private static float distance(int from, int to) {
        int x = from % 32 - to % 32;
        int y = from / 32 - to / 32;
        return (float) Math.sqrt(x * x + y * y);
    }

    /** Each job is CUT for the version that there is then; what the drawing is later changes nothing. */
    private static void lengthsOfDrawingsThatChange() {
        Kerfworks shop = new Kerfworks();
        shop.drawing();
        shop.sheet(64, 64);
        float due = 0;
        for (int version = 0; version < 8; version++) {
            float once = triangle(shop, 0, 2 + version, 3);
            Check.isFloat("its length", shop.length(0), once);
            shop.job(0, 1 + version % 3);
            shop.cut(version);
            for (int copy = 0; copy < 1 + version % 3; copy++) {
                due += once;
            }
            lengths(shop, due);
            shop.redraw(0);
            lengths(shop, due);
            Check.is("the version that was CUT", shop.ofJob(version, 3), version);
        }
    }
}
