/** Promises 5, 8 to 10 and 12 to 14: how parts are nested, taken off, and nested again. */
public final class JobsTest {
    private JobsTest() {
    }

    public static void main(String[] args) {
        sheet();
        sheetRefuses();
        sheetRefusesBeyond400Pieces();
        lastPiecesAreUsed();
        twoPiecesAreLeft();
        freeTells();
        partTakesTheWhole();
        partLeavesTwoPieces();
        partTakesTheLeastArea();
        partTakesTheLeastAreaAlsoTurned();
        belowOfWhatIsRight();
        sameAreaGoesToTheLowestNumber();
        partIsNeverTurned();
        jobRefuses();
        jobLaysAllOrNone();
        numbersAreGivenAgain();
        sheetAfterAJobThatWaits();
        wholeIsFreeAgainWhateverWasLaid();
        goneNumbersAreNotGivenAgain();
        cancelJoinsOutward();
        cancelKeepsWhatIsNotAllFree();
        cancelRefuses();
        waitingJobsAreTriedByNumbers();
        waitingJobsNeedFineDrawings();
        redrawMovesTheSheet();
        redrawGoesNotOnward();
        redrawLeavesCutJobs();
        redrawTriesThoseThatWaited();
        ofJob();
        where();
        Check.end();
    }

    private static void sheet() {
        Kerfworks shop = new Kerfworks();
        for (int i = 0; i < 8; i++) {
            Check.is("sheet()", shop.sheet(i + 1, 64 - i), i);
            Check.is("it is FREE", shop.free(i), 10000 * i + 100 * (i + 1) + 64 - i);
            Check.is("it is the last one", shop.free(i + 1), -1);
        }
        Check.noState("the 9th sheet", () -> shop.sheet(1, 1));
        Check.is("no more pieces", shop.free(8), -1);
    }

    private static void sheetRefuses() {
        Kerfworks shop = new Kerfworks();
        for (int side : new int[] {0, -1, 65, Integer.MIN_VALUE, Integer.MAX_VALUE}) {
            Check.noArgument("sheet(" + side + ", 1)", () -> shop.sheet(side, 1));
            Check.noArgument("sheet(1, " + side + ")", () -> shop.sheet(1, side));
        }
        Check.is("nothing came", shop.free(0), -1);
        for (int i = 0; i < 8; i++) {
            shop.sheet(64, 64);
        }
        Check.noArgument("out of range before too many", () -> shop.sheet(0, 1));
        Check.noArgument("out of range before too many", () -> shop.sheet(1, 65));
    }

    private static void sheetRefusesBeyond400Pieces() {
        Kerfworks shop = new Kerfworks();
        int small = Check.rectangle(shop, 2, 2);
        use397Pieces(shop, small);
        Check.is("a job over 400 pieces", shop.job(small, 2), 3);
        Check.is("waits", shop.ofJob(3, 0), Kerfworks.WAITS);
        Check.is("all is as before", shop.free(0), 4040);
        Check.is("all is as before", shop.free(1), -1);
        Check.is("a job of three pieces", shop.job(small, 1), 4);
        Check.is("is nested", shop.ofJob(4, 0), Kerfworks.NESTED);
        Check.is("the 398th piece", shop.where(4, 0, 3), 397);
        Check.noState("a sheet beyond 400 pieces", () -> shop.sheet(1, 1));
        Check.noArgument("out of range goes first", () -> shop.sheet(65, 1));
        Check.is("a job without pieces", shop.job(small, 1), 5);
        Check.is("waits too", shop.ofJob(5, 0), Kerfworks.WAITS);
        Check.is("cancel", shop.cancel(4), Kerfworks.NESTED);
        Check.is("numbers that are GONE are used up", shop.ofJob(5, 0), Kerfworks.WAITS);
        Check.noState("a sheet still", () -> shop.sheet(1, 1));
    }

    /** Six small parts use 13 pieces: three for the first and two for each other one. */
    private static void use397Pieces(Kerfworks shop, int small) {
        shop.sheet(40, 40);
        shop.job(small, 6);
        for (int used = 14; used < 391; used += 13) {
            shop.redraw(small);
            Check.rectangleIn(shop, small, 2, 2);
        }
        Check.is("the first of 13 pieces", shop.where(0, 0, 3), 378);
        shop.cancel(0);
        for (int job = 1; job <= 2; job++) {
            shop.job(small, 1);
            Check.is("the first of three pieces", shop.where(job, 0, 3), 388 + 3 * job);
            shop.cancel(job);
        }
    }

    /** A part that takes the whole needs one piece alone, also the last one. */
    private static void lastPiecesAreUsed() {
        Kerfworks shop = new Kerfworks();
        int small = Check.rectangle(shop, 2, 2);
        use397Pieces(shop, small);
        shop.sheet(3, 3);
        shop.job(small, 1);
        Check.is("the 399th piece", shop.where(3, 0, 3), 398);
        shop.job(small, 1);
        Check.is("no three pieces are left", shop.ofJob(4, 0), Kerfworks.WAITS);
        Check.is("cancel", shop.cancel(3), Kerfworks.NESTED);
        Check.is("the 400th piece", shop.where(4, 0, 3), 399);
        Check.noState("a sheet", () -> shop.sheet(1, 1));
    }

    /** A part as wide as the whole leaves nothing to the right, one as high leaves nothing below. */
    private static void twoPiecesAreLeft() {
        for (int turned = 0; turned <= 1; turned++) {
            Kerfworks shop = new Kerfworks();
            int small = Check.rectangle(shop, 2, 2);
            int flat = turned == 0 ? Check.rectangle(shop, 4, 2) : Check.rectangle(shop, 2, 4);
            use397Pieces(shop, small);
            shop.sheet(turned == 0 ? 5 : 9, turned == 0 ? 9 : 5);
            shop.job(small, 1);
            Check.is("a part that needs three waits", shop.ofJob(3, 0), Kerfworks.WAITS);
            shop.job(flat, 1);
            Check.is("one that needs two is nested", shop.ofJob(4, 0), Kerfworks.NESTED);
            Check.is("the 399th piece", shop.where(4, 0, 3), 398);
            Check.is("the 400th piece", shop.free(1), turned == 0 ? 10506 : 10605);
            Check.noState("a sheet", () -> shop.sheet(1, 1));
        }
    }

    private static void freeTells() {
        Kerfworks shop = new Kerfworks();
        for (int place : new int[] {-1, Integer.MIN_VALUE}) {
            Check.noPlace("free(" + place + ")", () -> shop.free(place));
        }
        Check.is("free(max)", shop.free(Integer.MAX_VALUE), -1);
        shop.sheet(7, 9);
        shop.sheet(64, 64);
        Check.is("free(0)", shop.free(0), 709);
        Check.is("free(1)", shop.free(1), 16464);
        Check.is("free(2)", shop.free(2), -1);
    }

    private static void partTakesTheWhole() {
        Kerfworks shop = new Kerfworks();
        int drawing = Check.rectangle(shop, 3, 4);
        shop.sheet(3, 5);
        shop.sheet(4, 4);
        shop.sheet(4, 5);
        shop.job(drawing, 1);
        Check.is("one more each way", shop.where(0, 0, 0), 2);
        Check.is("a piece of its own", shop.where(0, 0, 3), 3);
        Check.is("free(0)", shop.free(0), 305);
        Check.is("free(1)", shop.free(1), 10404);
        Check.is("nothing is left of it", shop.free(2), -1);
    }

    private static void partLeavesTwoPieces() {
        Kerfworks shop = new Kerfworks();
        int drawing = Check.rectangle(shop, 3, 4);
        shop.sheet(10, 20);
        shop.job(drawing, 1);
        Check.is("sheet", shop.where(0, 0, 0), 0);
        Check.is("left", shop.where(0, 0, 1), 0);
        Check.is("top", shop.where(0, 0, 2), 0);
        Check.is("piece", shop.where(0, 0, 3), 1);
        Check.is("to the right, as high", shop.free(0), 605);
        Check.is("below, as wide as the whole", shop.free(1), 1015);
        Check.is("no other", shop.free(2), -1);
        shop.job(drawing, 1);
        Check.is("the second is to the right", shop.where(1, 0, 1), 4);
        Check.is("at the top", shop.where(1, 0, 2), 0);
        Check.is("its piece", shop.where(1, 0, 3), 4);
        Check.is("below", shop.free(0), 1015);
        Check.is("right of it", shop.free(1), 205);
        shop.job(drawing, 1);
        Check.is("the third is below", shop.where(2, 0, 1), 0);
        Check.is("the third is below", shop.where(2, 0, 2), 5);
        Check.is("its piece", shop.where(2, 0, 3), 6);
    }

    private static void partTakesTheLeastArea() {
        Kerfworks shop = new Kerfworks();
        int drawing = Check.rectangle(shop, 2, 2);
        shop.sheet(10, 4);
        shop.sheet(3, 11);
        shop.sheet(6, 6);
        shop.sheet(2, 9);
        shop.job(drawing, 1);
        Check.is("area 33 of 40, 33, 36 and a narrow 18", shop.where(0, 0, 0), 1);
    }

    private static void partTakesTheLeastAreaAlsoTurned() {
        Kerfworks shop = new Kerfworks();
        int drawing = Check.rectangle(shop, 2, 2);
        shop.sheet(4, 10);
        shop.sheet(11, 3);
        shop.sheet(6, 6);
        shop.sheet(9, 2);
        shop.job(drawing, 1);
        Check.is("area 33 of 40, 33, 36 and a flat 18", shop.where(0, 0, 0), 1);
    }

    /** The third part is laid below the second one, which is right of the first one. */
    private static void belowOfWhatIsRight() {
        Kerfworks shop = new Kerfworks();
        shop.sheet(10, 6);
        shop.job(Check.rectangle(shop, 2, 5), 1);
        shop.job(Check.rectangle(shop, 2, 2), 1);
        shop.job(Check.rectangle(shop, 5, 2), 1);
        Check.is("left of the second", shop.where(1, 0, 1), 3);
        Check.is("top of the second", shop.where(1, 0, 2), 0);
        Check.is("left of the third", shop.where(2, 0, 1), 3);
        Check.is("top of the third", shop.where(2, 0, 2), 3);
        Check.is("free(0)", shop.free(0), 403);
        Check.is("free(1)", shop.free(1), 103);
        Check.is("free(2)", shop.free(2), -1);
    }

    private static void sameAreaGoesToTheLowestNumber() {
        Kerfworks shop = new Kerfworks();
        int drawing = Check.rectangle(shop, 2, 2);
        shop.sheet(40, 3);
        shop.sheet(4, 9);
        shop.sheet(6, 6);
        shop.sheet(9, 4);
        shop.job(drawing, 1);
        Check.is("the lowest of area 36", shop.where(0, 0, 0), 1);
    }

    private static void partIsNeverTurned() {
        Kerfworks shop = new Kerfworks();
        int flat = Check.rectangle(shop, 8, 2);
        shop.sheet(3, 9);
        shop.job(flat, 1);
        Check.is("it waits", shop.ofJob(0, 0), Kerfworks.WAITS);
        shop.sheet(9, 3);
        Check.is("it is nested", shop.where(0, 0, 0), 1);
    }

    private static void jobRefuses() {
        Kerfworks shop = new Kerfworks();
        Check.noPlace("job without a drawing", () -> shop.job(0, 1));
        shop.drawing();
        Check.noState("job of an OPEN one", () -> shop.job(0, 1));
        for (int copies : new int[] {0, 7, -1, Integer.MIN_VALUE, Integer.MAX_VALUE}) {
            Check.noArgument("copies go before OPEN", () -> shop.job(0, copies));
            Check.noPlace("no drawing goes first", () -> shop.job(1, copies));
            Check.noPlace("no drawing goes first", () -> shop.job(-1, copies));
        }
        Check.rectangleIn(shop, 0, 2, 2);
        for (int i = 0; i < 30; i++) {
            Check.is("job()", shop.job(0, 1 + i % 6), i);
            Check.is("copies", shop.ofJob(i, 2), 1 + i % 6);
        }
        shop.cancel(3);
        Check.noState("the 31st job", () -> shop.job(0, 1));
        Check.noArgument("copies go before too many", () -> shop.job(0, 7));
        Check.noPlace("no such job", () -> shop.ofJob(30, 0));
    }

    private static void jobLaysAllOrNone() {
        Kerfworks shop = new Kerfworks();
        int drawing = Check.rectangle(shop, 2, 2);
        shop.sheet(7, 4);
        shop.sheet(3, 3);
        shop.job(drawing, 4);
        Check.is("three would fit", shop.ofJob(0, 0), Kerfworks.WAITS);
        Check.is("as before", shop.free(0), 704);
        Check.is("as before", shop.free(1), 10303);
        Check.is("as before", shop.free(2), -1);
        Check.is("no version", shop.ofJob(0, 3), -1);
        shop.job(drawing, 3);
        Check.is("three fit", shop.ofJob(1, 0), Kerfworks.NESTED);
        Check.is("first", shop.where(1, 0, 0), 1);
        Check.is("second", shop.where(1, 1, 0), 0);
        Check.is("second", shop.where(1, 1, 1), 0);
        Check.is("third", shop.where(1, 2, 1), 3);
        Check.is("free(0)", shop.free(0), 701);
        Check.is("free(1)", shop.free(1), 103);
        Check.is("free(2)", shop.free(2), -1);
    }

    private static void numbersAreGivenAgain() {
        Kerfworks shop = new Kerfworks();
        int drawing = Check.rectangle(shop, 2, 2);
        shop.sheet(7, 4);
        shop.job(drawing, 6);
        shop.job(drawing, 6);
        shop.job(drawing, 1);
        Check.is("the first number after the sheet", shop.where(2, 0, 3), 1);
    }

    private static void sheetAfterAJobThatWaits() {
        Kerfworks shop = new Kerfworks();
        int drawing = Check.rectangle(shop, 2, 2);
        shop.sheet(9, 3);
        shop.job(drawing, 1);
        shop.job(drawing, 3);
        shop.sheet(3, 4);
        Check.is("the three are nested", shop.ofJob(1, 0), Kerfworks.NESTED);
        shop.cancel(1);
        shop.sheet(3, 3);
        shop.job(drawing, 1);
        Check.is("sheet", shop.where(2, 0, 0), 2);
        Check.is("left", shop.where(2, 0, 1), 0);
        shop.job(drawing, 4);
        shop.sheet(2, 3);
        Check.is("FREE", shop.free(2), 30203);
        Check.is("no more", shop.free(3), -1);
    }

    private static void wholeIsFreeAgainWhateverWasLaid() {
        Kerfworks shop = new Kerfworks();
        int small = Check.rectangle(shop, 2, 2);
        int flat = Check.rectangle(shop, 7, 6);
        int tall = Check.rectangle(shop, 6, 7);
        shop.sheet(8, 8);
        int[] copies = {1, 1, 4, 4, 5, 5};
        for (int round = 0; round < 6; round++) {
            int job = shop.job(small, copies[round]);
            Check.is("five do not fit", shop.ofJob(job, 0), round >= 4 ? Kerfworks.WAITS : Kerfworks.NESTED);
            shop.cancel(job);
            int big = shop.job(round % 2 == 0 ? flat : tall, 1);
            Check.is("all but a strip", shop.free(0), round % 2 == 0 ? 801 : 108);
            shop.cancel(big);
            Check.is("the whole is FREE", shop.free(0), 808);
            Check.is("and nothing else", shop.free(1), -1);
        }
    }

    private static void goneNumbersAreNotGivenAgain() {
        Kerfworks shop = new Kerfworks();
        int drawing = Check.rectangle(shop, 2, 2);
        shop.sheet(7, 4);
        shop.job(drawing, 1);
        shop.cancel(0);
        Check.is("the sheet is one again", shop.free(0), 704);
        Check.is("the sheet is one again", shop.free(1), -1);
        shop.job(drawing, 1);
        Check.is("the next number after the GONE ones", shop.where(1, 0, 3), 4);
        Check.is("a sheet after it", shop.sheet(3, 3), 1);
        shop.job(drawing, 1);
        Check.is("the sheet is a piece, too", shop.where(2, 0, 3), 8);
    }

    private static void cancelJoinsOutward() {
        Kerfworks shop = new Kerfworks();
        int drawing = Check.rectangle(shop, 2, 2);
        shop.sheet(10, 10);
        for (int i = 0; i < 5; i++) {
            shop.job(drawing, 1);
        }
        Check.is("the fifth is in the second row", shop.where(4, 0, 2), 3);
        for (int i = 0; i < 4; i++) {
            Check.is("cancel", shop.cancel(i), Kerfworks.NESTED);
        }
        Check.isTrue("the sheet is not one yet", shop.free(1) != -1);
        Check.is("cancel the last", shop.cancel(4), Kerfworks.NESTED);
        Check.is("the sheet is one again", shop.free(0), 1010);
        Check.is("and nothing else", shop.free(1), -1);
    }

    private static void cancelKeepsWhatIsNotAllFree() {
        Kerfworks shop = new Kerfworks();
        int drawing = Check.rectangle(shop, 2, 2);
        shop.sheet(6, 3);
        shop.job(drawing, 1);
        shop.job(drawing, 1);
        shop.cancel(0);
        Check.is("its piece is FREE", shop.free(0), 303);
        Check.is("the other is TAKEN", shop.free(1), -1);
        shop.job(drawing, 1);
        Check.is("a part is laid in what was TAKEN", shop.where(2, 0, 1), 0);
        Check.is("it is a piece of its own", shop.where(2, 0, 3), 4);
        shop.cancel(1);
        Check.is("the right one", shop.free(0), 303);
        Check.is("is FREE alone", shop.free(1), -1);
        shop.cancel(2);
        Check.is("all is one", shop.free(0), 603);
        Check.is("all is one", shop.free(1), -1);
    }

    private static void cancelRefuses() {
        Kerfworks shop = new Kerfworks();
        Check.noPlace("cancel(0) without a job", () -> shop.cancel(0));
        int drawing = Check.rectangle(shop, 2, 2);
        shop.sheet(3, 3);
        shop.job(drawing, 1);
        shop.job(drawing, 1);
        shop.job(drawing, 1);
        Check.noPlace("cancel(-1)", () -> shop.cancel(-1));
        Check.noPlace("cancel(3)", () -> shop.cancel(3));
        Check.is("cancel one that WAITS", shop.cancel(1), Kerfworks.WAITS);
        Check.is("it is CANCELLED", shop.ofJob(1, 0), Kerfworks.CANCELLED);
        Check.noState("cancel twice", () -> shop.cancel(1));
        shop.cut(0);
        Check.noState("cancel a CUT one", () -> shop.cancel(0));
        Check.is("it is CUT", shop.ofJob(0, 0), Kerfworks.CUT);
        Check.is("it is where it was", shop.where(0, 0, 0), 0);
        Check.is("the third one waits", shop.ofJob(2, 0), Kerfworks.WAITS);
    }

    private static void waitingJobsAreTriedByNumbers() {
        Kerfworks shop = new Kerfworks();
        int big = Check.rectangle(shop, 7, 7);
        int small = Check.rectangle(shop, 2, 2);
        shop.job(big, 1);
        shop.job(small, 2);
        shop.job(small, 1);
        shop.sheet(3, 3);
        Check.is("the big one waits", shop.ofJob(0, 0), Kerfworks.WAITS);
        Check.is("two copies wait", shop.ofJob(1, 0), Kerfworks.WAITS);
        Check.is("one copy is nested", shop.ofJob(2, 0), Kerfworks.NESTED);
        shop.sheet(8, 8);
        Check.is("the big one goes first", shop.where(0, 0, 0), 1);
        Check.is("two copies wait", shop.ofJob(1, 0), Kerfworks.WAITS);
        shop.cancel(0);
        Check.is("two copies are nested", shop.where(1, 1, 0), 1);
        Check.is("the other stays", shop.where(2, 0, 0), 0);
    }

    private static void waitingJobsNeedFineDrawings() {
        Kerfworks shop = new Kerfworks();
        int first = Check.rectangle(shop, 2, 2);
        int second = Check.rectangle(shop, 3, 3);
        shop.job(first, 1);
        shop.job(second, 1);
        shop.redraw(first);
        shop.sheet(5, 5);
        Check.is("its drawing is OPEN", shop.ofJob(0, 0), Kerfworks.WAITS);
        Check.is("the other one is nested", shop.ofJob(1, 0), Kerfworks.NESTED);
        shop.cancel(1);
        Check.is("still OPEN", shop.ofJob(0, 0), Kerfworks.WAITS);
        shop.stroke(first, 0, 3);
        shop.finish(first);
        Check.is("it went back", shop.ofJob(0, 0), Kerfworks.WAITS);
        shop.stroke(first, 3, 99);
        shop.stroke(first, 99, 0);
        Check.is("it gets FINE", shop.finish(first), -1);
        Check.is("and is nested", shop.ofJob(0, 0), Kerfworks.NESTED);
        Check.is("for its new version", shop.ofJob(0, 3), 1);
    }

    /** Taken off are the jobs that share a sheet; nested again are those whose drawings are FINE. */
    private static void redrawMovesTheSheet() {
        Kerfworks shop = new Kerfworks();
        int changed = Check.rectangle(shop, 3, 3);
        int other = Check.rectangle(shop, 2, 2);
        shop.sheet(10, 4);
        shop.job(changed, 1);
        shop.job(other, 1);
        shop.job(changed, 2);
        Check.is("it waits", shop.ofJob(2, 0), Kerfworks.WAITS);
        Check.is("right of the first", shop.where(1, 0, 1), 4);
        Check.is("two are taken off", shop.redraw(changed), 2);
        Check.is("its job waits", shop.ofJob(0, 0), Kerfworks.WAITS);
        Check.is("for no version", shop.ofJob(0, 3), -1);
        Check.is("it is nowhere", shop.where(0, 0, 0), -1);
        Check.is("the other one is nested", shop.ofJob(1, 0), Kerfworks.NESTED);
        Check.is("at the left", shop.where(1, 0, 1), 0);
        Check.is("with a new number", shop.where(1, 0, 3), 6);
        Check.is("for its version", shop.ofJob(1, 3), 0);
        Check.is("what is right of it", shop.free(0), 703);
        Check.is("what is below", shop.free(1), 1001);
        Check.is("no more", shop.free(2), -1);
    }

    private static void redrawGoesNotOnward() {
        Kerfworks shop = new Kerfworks();
        int changed = Check.rectangle(shop, 3, 3);
        int other = Check.rectangle(shop, 2, 2);
        shop.sheet(7, 4);
        shop.job(changed, 1);
        shop.sheet(9, 3);
        shop.job(other, 3);
        shop.job(other, 1);
        Check.is("the second job begins on sheet 0", shop.where(1, 0, 0), 0);
        Check.is("and goes on with sheet 1", shop.where(1, 1, 0), 1);
        Check.is("and goes on with sheet 1", shop.where(1, 2, 1), 3);
        Check.is("the third job is on sheet 1", shop.where(2, 0, 0), 1);
        Check.is("right of the second", shop.where(2, 0, 1), 6);
        int piece = shop.where(2, 0, 3);
        Check.is("two are taken off", shop.redraw(changed), 2);
        Check.is("the third job stays", shop.where(2, 0, 3), piece);
        Check.is("the second is nested again", shop.ofJob(1, 0), Kerfworks.NESTED);
        Check.is("on sheet 1", shop.where(1, 0, 0), 1);
        Check.is("on sheet 1", shop.where(1, 1, 1), 3);
        Check.is("and then on sheet 0", shop.where(1, 2, 0), 0);
    }

    private static void redrawLeavesCutJobs() {
        Kerfworks shop = new Kerfworks();
        int changed = Check.rectangle(shop, 3, 3);
        int other = Check.rectangle(shop, 2, 2);
        shop.sheet(10, 4);
        shop.job(changed, 1);
        shop.job(other, 1);
        shop.cut(0);
        Check.is("a CUT job moves nothing", shop.redraw(changed), 0);
        Check.is("the other one stays", shop.where(1, 0, 3), 3);
        shop.cut(1);
        Check.rectangleIn(shop, changed, 2, 2);
        shop.job(changed, 1);
        Check.is("right of both", shop.where(2, 0, 1), 7);
        Check.is("CUT jobs on its sheet stay", shop.redraw(changed), 1);
        Check.is("the first is CUT", shop.ofJob(0, 0), Kerfworks.CUT);
        Check.is("for its version", shop.ofJob(0, 3), 0);
        Check.is("the second is CUT", shop.where(1, 0, 3), 3);
        Check.is("the third waits", shop.ofJob(2, 0), Kerfworks.WAITS);
    }

    private static void redrawTriesThoseThatWaited() {
        Kerfworks shop = new Kerfworks();
        int changed = Check.rectangle(shop, 3, 3);
        int other = Check.rectangle(shop, 2, 3);
        shop.sheet(4, 4);
        shop.job(changed, 1);
        shop.job(other, 1);
        shop.job(other, 1);
        Check.is("one is taken off", shop.redraw(changed), 1);
        Check.is("the next one is nested", shop.ofJob(1, 0), Kerfworks.NESTED);
        Check.is("the last one waits", shop.ofJob(2, 0), Kerfworks.WAITS);
        shop.redraw(other);
        Check.rectangleIn(shop, changed, 3, 3);
        Check.is("the first again", shop.ofJob(0, 0), Kerfworks.NESTED);
        Check.is("for its new version", shop.ofJob(0, 3), 1);
    }

    private static void ofJob() {
        Kerfworks shop = new Kerfworks();
        Check.noPlace("ofJob without a job", () -> shop.ofJob(0, 0));
        Check.rectangle(shop, 2, 2);
        int drawing = Check.rectangle(shop, 2, 2);
        shop.job(drawing, 4);
        Check.is("WAITS", shop.ofJob(0, 0), Kerfworks.WAITS);
        Check.is("drawing", shop.ofJob(0, 1), 1);
        Check.is("copies", shop.ofJob(0, 2), 4);
        Check.is("version", shop.ofJob(0, 3), -1);
        shop.redraw(drawing);
        Check.rectangleIn(shop, drawing, 2, 2);
        shop.sheet(20, 20);
        Check.is("NESTED", shop.ofJob(0, 0), Kerfworks.NESTED);
        Check.is("version 1", shop.ofJob(0, 3), 1);
        shop.job(drawing, 1);
        shop.cut(0);
        Check.is("CUT", shop.ofJob(0, 0), Kerfworks.CUT);
        shop.redraw(drawing);
        Check.is("the version that was CUT", shop.ofJob(0, 3), 1);
        shop.cancel(1);
        Check.is("CANCELLED", shop.ofJob(1, 0), Kerfworks.CANCELLED);
        Check.is("its drawing", shop.ofJob(1, 1), 1);
        Check.is("its copies", shop.ofJob(1, 2), 1);
        Check.is("no version", shop.ofJob(1, 3), -1);
        for (int wrong : new int[] {-1, 4, Integer.MAX_VALUE, Integer.MIN_VALUE}) {
            Check.noArgument("ofJob(0, " + wrong + ")", () -> shop.ofJob(0, wrong));
            Check.noPlace("no job goes first", () -> shop.ofJob(wrong, wrong));
        }
        Check.noPlace("ofJob(2, 0)", () -> shop.ofJob(2, 0));
    }

    private static void where() {
        Kerfworks shop = new Kerfworks();
        Check.noPlace("where without a job", () -> shop.where(0, 0, 0));
        int drawing = Check.rectangle(shop, 2, 4);
        shop.job(drawing, 2);
        for (int what = 0; what <= 3; what++) {
            Check.is("where it WAITS", shop.where(0, 1, what), -1);
        }
        for (int wrong : new int[] {-1, 4, Integer.MAX_VALUE, Integer.MIN_VALUE}) {
            Check.noArgument("what, though it WAITS", () -> shop.where(0, 0, wrong));
            Check.noPlace("no copy goes first", () -> shop.where(0, wrong, wrong));
            Check.noPlace("no job goes first", () -> shop.where(wrong, 0, wrong));
        }
        Check.noPlace("where(0, 2, 0)", () -> shop.where(0, 2, 0));
        Check.noPlace("where(1, 0, 0)", () -> shop.where(1, 0, 0));
        shop.sheet(1, 1);
        shop.sheet(5, 12);
        int[][] due = {{1, 0, 0, 2}, {1, 0, 5, 5}};
        for (int copy = 0; copy < 2; copy++) {
            for (int what = 0; what <= 3; what++) {
                Check.is("where it is NESTED", shop.where(0, copy, what), due[copy][what]);
            }
        }
        shop.cut(0);
        Check.is("where it is CUT", shop.where(0, 1, 2), 5);
        shop.job(drawing, 1);
        shop.cancel(1);
        Check.is("where it is CANCELLED", shop.where(1, 0, 3), -1);
    }
}
