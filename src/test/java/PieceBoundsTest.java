/** Each sentence of "PIECES" and promises 8, 13 and 14, at the last value allowed and the first that is not. */
public final class PieceBoundsTest {
    private PieceBoundsTest() {
    }

    public static void main(String[] args) {
        sheetsAreNumberedFrom0();
        atMostEightSheets();
        sidesFrom1To64();
        aSheetIsFreeAtFirst();
        piecesAreNumberedFrom0();
        sheetAsThe400thPiece();
        partsUpToThe400thPiece();
        copiesUpToThe400thPiece();
        eightSheetsGoBefore400Pieces();
        numbersGivenAgainAfterAJob();
        numbersGivenAgainAfterASheet();
        numbersGivenAgainAfterACancel();
        numbersGivenAgainAfterAFinish();
        numbersGivenAgainAfterARedraw();
        goneNumbersAreNeverGivenAgain();
        aPieceHasToHoldThePart();
        theSmallestParts();
        theLargestPart();
        thePartThatIsTheWhole();
        nothingToTheRight();
        nothingBelow();
        oneLeftToTheRight();
        oneLeftBelow();
        rightBeforeBelow();
        theLeastAreaByOne();
        theLowestNumberOfTheSameArea();
        anyPieceThatHoldsIt();
        takenAndPartedAreNotFree();
        takenOffIsFreeOrJoined();
        joinedOutwardAsFarAsItGoes();
        joinedWithoutARightOne();
        joinedAfterATryThatFailed();
        cutPartsAreNeverTakenOff();
        freeTellsTheNumber();
        whereTellsTheNumber();
        Check.end();
    }

    /** The code by which free tells a piece. */
    private static int told(int sheet, int wide, int high) {
        return 10000 * sheet + 100 * wide + high;
    }

    private static void free(Kerfworks shop, int... due) {
        for (int place = 0; place < due.length; place++) {
            Check.is("free(" + place + ")", shop.free(place), due[place]);
        }
        Check.is("no more that are FREE", shop.free(due.length), -1);
    }

    private static void place(Kerfworks shop, int job, int copy, int... due) {
        for (int what = 0; what < due.length; what++) {
            Check.is("where(" + job + ", " + copy + ", " + what + ")", shop.where(job, copy, what), due[what]);
        }
    }

    private static boolean isNested(Kerfworks shop, int job) {
        return shop.ofJob(job, 0) == Kerfworks.NESTED;
    }

    private static void sheetsAreNumberedFrom0() {
        Kerfworks shop = new Kerfworks();
        free(shop);
        Check.is("the first", shop.sheet(2, 3), 0);
        Check.is("the second", shop.sheet(4, 5), 1);
        free(shop, told(0, 2, 3), told(1, 4, 5));
    }

    private static void atMostEightSheets() {
        Kerfworks shop = new Kerfworks();
        for (int i = 0; i < 7; i++) {
            shop.sheet(3, 3);
        }
        Check.is("the 8th", shop.sheet(4, 4), 7);
        Check.noState("the 9th", () -> shop.sheet(4, 4));
        int drawing = Check.rectangle(shop, 3, 3);
        shop.job(drawing, 1);
        place(shop, 0, 0, 7, 0, 0, 8);
        shop.cut(0);
        Check.noState("the 9th when one is used up", () -> shop.sheet(4, 4));
        Check.is("the last one that is FREE", shop.free(6), told(6, 3, 3));
    }

    private static void sidesFrom1To64() {
        Kerfworks shop = new Kerfworks();
        int[][] sizes = {{1, 1}, {64, 64}, {1, 64}, {64, 1}, {2, 63}, {63, 2}};
        for (int i = 0; i < sizes.length; i++) {
            Check.is("sheet", shop.sheet(sizes[i][0], sizes[i][1]), i);
            Check.is("its size", shop.free(i), told(i, sizes[i][0], sizes[i][1]));
        }
        Check.noArgument("0 wide", () -> shop.sheet(0, 64));
        Check.noArgument("0 high", () -> shop.sheet(64, 0));
        Check.noArgument("65 wide", () -> shop.sheet(65, 64));
        Check.noArgument("65 high", () -> shop.sheet(64, 65));
        Check.is("the next number", shop.sheet(1, 1), 6);
    }

    private static void aSheetIsFreeAtFirst() {
        Kerfworks shop = new Kerfworks();
        shop.sheet(3, 3);
        free(shop, told(0, 3, 3));
        int drawing = Check.rectangle(shop, 2, 2);
        Check.is("a part can be laid", shop.job(drawing, 1), 0);
        place(shop, 0, 0, 0, 0, 0, 1);
    }

    private static void piecesAreNumberedFrom0() {
        Kerfworks shop = new Kerfworks();
        int drawing = Check.rectangle(shop, 2, 2);
        shop.sheet(1, 1);
        shop.sheet(1, 1);
        shop.sheet(5, 5);
        shop.job(drawing, 1);
        Check.is("sheets are 0 to 2, the part is 3", shop.where(0, 0, 3), 3);
        shop.sheet(3, 3);
        shop.job(drawing, 1);
        Check.is("two are FREE, the sheet is 6, the part 7", shop.where(1, 0, 3), 7);
    }

    private static void sheetAsThe400thPiece() {
        Kerfworks shop = Shops.withPiecesAndNoRoom(398);
        Check.is("as the 399th", shop.sheet(3, 3), 1);
        Check.is("as the 400th", shop.sheet(3, 3), 2);
        Check.noState("as the 401st", () -> shop.sheet(3, 3));
        Check.noArgument("out of range as the 401st", () -> shop.sheet(0, 3));
        free(shop, told(1, 3, 3), told(2, 3, 3));
    }

    /** Parts of 3 by 3, that need one piece, two or three, where there are 397 to 400. */
    private static void partsUpToThe400thPiece() {
        int[][] sheets = {{3, 3, 1}, {4, 3, 2}, {3, 4, 2}, {4, 4, 3}};
        for (int[] sheet : sheets) {
            for (int pieces = 396; pieces <= 400; pieces++) {
                Kerfworks shop = Shops.withPiecesAndNoRoom(pieces - 1);
                shop.sheet(sheet[0], sheet[1]);
                int job = shop.job(0, 1);
                boolean fits = pieces + sheet[2] <= 400;
                String told = pieces + " pieces and " + sheet[2] + " more";
                Check.isTrue(told, isNested(shop, job) == fits);
                Check.is("its piece: " + told, shop.where(job, 0, 3), fits ? pieces : -1);
                Check.is("what is FREE: " + told, shop.free(fits ? sheet[2] - 1 : 1), -1);
                if (!fits) {
                    free(shop, told(1, sheet[0], sheet[1]));
                }
                if (pieces + (fits ? sheet[2] : 0) < 400) {
                    Check.is("a sheet: " + told, shop.sheet(1, 1), 2);
                } else {
                    Check.noState("no sheet: " + told, () -> shop.sheet(1, 1));
                }
            }
        }
    }

    /** The second of two copies would need the 401st piece; then the first one is not laid either. */
    private static void copiesUpToThe400thPiece() {
        for (int pieces = 395; pieces <= 396; pieces++) {
            Kerfworks shop = Shops.withPiecesAndNoRoom(pieces - 1);
            shop.sheet(7, 4);
            int both = shop.job(0, 2);
            Check.isTrue("two copies need five", isNested(shop, both) == (pieces == 395));
            if (pieces == 395) {
                place(shop, both, 0, 1, 0, 0, 395);
                place(shop, both, 1, 1, 3, 0, 398);
                free(shop, told(1, 7, 1), told(1, 1, 3));
            } else {
                free(shop, told(1, 7, 4));
                int one = shop.job(0, 1);
                place(shop, one, 0, 1, 0, 0, 396);
                free(shop, told(1, 4, 3), told(1, 7, 1));
            }
        }
    }

    private static void eightSheetsGoBefore400Pieces() {
        Kerfworks shop = Shops.withPiecesAndNoRoom(393);
        for (int sheet = 1; sheet <= 7; sheet++) {
            Check.is("a sheet", shop.sheet(2, sheet), sheet);
        }
        Check.noState("both 8 and 400", () -> shop.sheet(2, 2));
        Check.noArgument("out of range goes first", () -> shop.sheet(2, 65));
        Check.is("the last sheet", shop.free(6), told(7, 2, 7));
    }

    /** A shop with a sheet for two parts of drawing 0, and job 0 that WAITS as it has six; piece 0 is the sheet. */
    private static Kerfworks withOneThatWaits() {
        Kerfworks shop = new Kerfworks();
        Check.rectangle(shop, 2, 2);
        Check.rectangle(shop, 9, 9);
        shop.sheet(7, 4);
        shop.job(0, 6);
        Check.isTrue("it waits", shop.ofJob(0, 0) == Kerfworks.WAITS);
        return shop;
    }

    private static void numbersGivenAgainAfterAJob() {
        Kerfworks shop = withOneThatWaits();
        free(shop, told(0, 7, 4));
        shop.job(0, 5);
        shop.job(0, 3);
        free(shop, told(0, 7, 4));
        shop.job(0, 1);
        place(shop, 3, 0, 0, 0, 0, 1);
        shop.job(0, 2);
        Check.is("it waits, as one fits", shop.ofJob(4, 0), Kerfworks.WAITS);
        free(shop, told(0, 4, 3), told(0, 7, 1));
        shop.job(0, 1);
        place(shop, 5, 0, 0, 3, 0, 4);
    }

    private static void numbersGivenAgainAfterASheet() {
        Kerfworks shop = withOneThatWaits();
        shop.sheet(8, 4);
        shop.sheet(2, 2);
        Check.is("four fit, six do not", shop.ofJob(0, 0), Kerfworks.WAITS);
        free(shop, told(0, 7, 4), told(1, 8, 4), told(2, 2, 2));
        shop.job(0, 1);
        place(shop, 1, 0, 0, 0, 0, 3);
    }

    private static void numbersGivenAgainAfterACancel() {
        Kerfworks shop = withOneThatWaits();
        shop.job(1, 1);
        shop.cancel(1);
        shop.job(0, 1);
        place(shop, 2, 0, 0, 0, 0, 1);
        shop.cancel(2);
        shop.job(0, 1);
        place(shop, 3, 0, 0, 0, 0, 4);
    }

    private static void numbersGivenAgainAfterAFinish() {
        Kerfworks shop = withOneThatWaits();
        Check.rectangle(shop, 5, 5);
        Check.rectangle(shop, 5, 5);
        shop.job(0, 1);
        place(shop, 1, 0, 0, 0, 0, 1);
    }

    private static void numbersGivenAgainAfterARedraw() {
        Kerfworks shop = withOneThatWaits();
        Check.is("none is taken off", shop.redraw(1), 0);
        shop.job(0, 1);
        place(shop, 1, 0, 0, 0, 0, 1);
        Check.is("one is taken off", shop.redraw(0), 1);
        Check.rectangleIn(shop, 0, 2, 2);
        Check.is("six wait still", shop.ofJob(0, 0), Kerfworks.WAITS);
        place(shop, 1, 0, 0, 0, 0, 4);
    }

    private static void goneNumbersAreNeverGivenAgain() {
        Kerfworks shop = new Kerfworks();
        Check.rectangle(shop, 2, 2);
        shop.sheet(3, 3);
        for (int job = 0; job < 29; job++) {
            shop.job(0, 1);
            place(shop, job, 0, 0, 0, 0, job + 1);
            shop.cancel(job);
            free(shop, told(0, 3, 3));
        }
        shop.sheet(4, 3);
        shop.job(0, 1);
        place(shop, 29, 0, 0, 0, 0, 31);
    }

    /** A part of 5 by 3 on sheets that hold it just so, or are one less wide or high. */
    private static void aPieceHasToHoldThePart() {
        int[][] sheets = {{5, 3, 1}, {4, 3, 0}, {5, 2, 0}, {6, 2, 0}, {4, 64, 0}, {64, 2, 0}, {3, 5, 0}, {64, 64, 1}};
        for (int[] sheet : sheets) {
            Kerfworks shop = new Kerfworks();
            int drawing = Check.rectangle(shop, 4, 2);
            shop.sheet(sheet[0], sheet[1]);
            shop.job(drawing, 1);
            Check.isTrue(sheet[0] + " by " + sheet[1], isNested(shop, 0) == (sheet[2] == 1));
        }
    }

    /** Three points in a row, or in a column, are FINE, and 1 high or wide; two by two is the least otherwise. */
    private static void theSmallestParts() {
        int[][] sizes = {{4, 2}, {2, 4}, {3, 3}};
        int[][] points = {{0, 1, 2}, {0, 32, 64}, {0, 1, 32}};
        for (int i = 0; i < sizes.length; i++) {
            for (int less = 0; less <= 2; less++) {
                Kerfworks shop = new Kerfworks();
                shop.drawing();
                for (int p = 0; p < 3; p++) {
                    shop.stroke(0, points[i][p], points[i][(p + 1) % 3]);
                }
                Check.is("FINE", shop.finish(0), -1);
                Check.is("wide", shop.ofDrawing(0, 2), sizes[i][0] - 1);
                Check.is("high", shop.ofDrawing(0, 3), sizes[i][1] - 1);
                shop.sheet(sizes[i][0] - (less == 1 ? 1 : 0), sizes[i][1] - (less == 2 ? 1 : 0));
                shop.job(0, 1);
                Check.isTrue("only on a sheet of just its size", isNested(shop, 0) == (less == 0));
            }
        }
    }

    private static void theLargestPart() {
        for (int less = 0; less <= 2; less++) {
            Kerfworks shop = new Kerfworks();
            int drawing = Check.rectangle(shop, 32, 32);
            shop.sheet(less == 1 ? 32 : 33, less == 2 ? 32 : 33);
            shop.job(drawing, 1);
            Check.isTrue("33 by 33", isNested(shop, 0) == (less == 0));
        }
        Kerfworks shop = new Kerfworks();
        int drawing = Check.rectangle(shop, 32, 32);
        shop.sheet(64, 64);
        shop.job(drawing, 2);
        Check.is("two do not fit", shop.ofJob(0, 0), Kerfworks.WAITS);
        shop.job(drawing, 1);
        Check.is("one fits", shop.ofJob(1, 0), Kerfworks.NESTED);
        free(shop, told(0, 31, 33), told(0, 64, 31));
    }

    private static void thePartThatIsTheWhole() {
        Kerfworks shop = new Kerfworks();
        int drawing = Check.rectangle(shop, 4, 2);
        shop.sheet(5, 3);
        shop.job(drawing, 1);
        place(shop, 0, 0, 0, 0, 0, 1);
        free(shop);
        shop.sheet(5, 3);
        shop.job(drawing, 1);
        place(shop, 1, 0, 1, 0, 0, 3);
        shop.cancel(0);
        free(shop, told(0, 5, 3));
        shop.job(drawing, 1);
        place(shop, 2, 0, 0, 0, 0, 4);
        free(shop);
    }

    private static void nothingToTheRight() {
        Kerfworks shop = new Kerfworks();
        int drawing = Check.rectangle(shop, 4, 2);
        shop.sheet(5, 7);
        shop.job(drawing, 1);
        place(shop, 0, 0, 0, 0, 0, 1);
        free(shop, told(0, 5, 4));
        shop.job(drawing, 1);
        place(shop, 1, 0, 0, 0, 3, 3);
        free(shop, told(0, 5, 1));
    }

    private static void nothingBelow() {
        Kerfworks shop = new Kerfworks();
        int drawing = Check.rectangle(shop, 4, 2);
        shop.sheet(11, 3);
        shop.job(drawing, 1);
        place(shop, 0, 0, 0, 0, 0, 1);
        free(shop, told(0, 6, 3));
        shop.job(drawing, 1);
        place(shop, 1, 0, 0, 5, 0, 3);
        free(shop, told(0, 1, 3));
    }

    private static void oneLeftToTheRight() {
        Kerfworks shop = new Kerfworks();
        int drawing = Check.rectangle(shop, 4, 2);
        shop.sheet(6, 3);
        shop.job(drawing, 1);
        free(shop, told(0, 1, 3));
        shop.cancel(0);
        free(shop, told(0, 6, 3));
    }

    private static void oneLeftBelow() {
        Kerfworks shop = new Kerfworks();
        int drawing = Check.rectangle(shop, 4, 2);
        shop.sheet(5, 4);
        shop.job(drawing, 1);
        free(shop, told(0, 5, 1));
        shop.cancel(0);
        free(shop, told(0, 5, 4));
    }

    /** The part is piece 1, what is right of it 2, what is below both 3, as wide as the whole. */
    private static void rightBeforeBelow() {
        Kerfworks shop = new Kerfworks();
        Check.rectangle(shop, 4, 2);
        shop.sheet(10, 6);
        shop.job(0, 1);
        free(shop, told(0, 5, 3), told(0, 10, 3));
        shop.job(0, 3);
        place(shop, 1, 0, 0, 5, 0, 4);
        place(shop, 1, 1, 0, 0, 3, 5);
        place(shop, 1, 2, 0, 5, 3, 7);
        free(shop);
    }

    private static void theLeastAreaByOne() {
        Kerfworks shop = new Kerfworks();
        int drawing = Check.rectangle(shop, 2, 2);
        shop.sheet(5, 5);
        shop.sheet(4, 6);
        shop.sheet(5, 5);
        shop.job(drawing, 1);
        Check.is("24 is less than 25", shop.where(0, 0, 0), 1);
        Kerfworks other = new Kerfworks();
        int same = Check.rectangle(other, 2, 2);
        other.sheet(6, 4);
        other.sheet(5, 5);
        other.job(same, 1);
        Check.is("25 is more than 24", other.where(0, 0, 0), 0);
    }

    private static void theLowestNumberOfTheSameArea() {
        Kerfworks shop = new Kerfworks();
        int drawing = Check.rectangle(shop, 2, 2);
        shop.sheet(4, 6);
        shop.sheet(6, 4);
        shop.sheet(3, 8);
        shop.sheet(8, 3);
        shop.job(drawing, 1);
        Check.is("the first of four", shop.where(0, 0, 0), 0);
        shop.cut(0);
        Kerfworks same = new Kerfworks();
        Check.rectangle(same, 2, 2);
        for (int i = 0; i < 8; i++) {
            same.sheet(3, 3);
        }
        same.job(0, 6);
        for (int copy = 0; copy < 6; copy++) {
            place(same, 0, copy, copy, 0, 0, 8 + copy);
        }
    }

    /** One that is narrow or flat has less area, and doesn't hold it. */
    private static void anyPieceThatHoldsIt() {
        Kerfworks shop = new Kerfworks();
        int drawing = Check.rectangle(shop, 4, 4);
        shop.sheet(4, 6);
        shop.sheet(6, 4);
        shop.sheet(64, 64);
        shop.sheet(5, 7);
        shop.job(drawing, 1);
        Check.is("the least of those that hold it", shop.where(0, 0, 0), 3);
        shop.job(drawing, 1);
        Check.is("then the large one", shop.where(1, 0, 0), 2);
    }

    private static void takenAndPartedAreNotFree() {
        Kerfworks shop = new Kerfworks();
        int drawing = Check.rectangle(shop, 2, 2);
        shop.sheet(3, 3);
        shop.sheet(4, 3);
        shop.job(drawing, 2);
        free(shop, told(1, 1, 3));
        shop.job(drawing, 1);
        Check.is("neither holds another part", shop.ofJob(1, 0), Kerfworks.WAITS);
    }

    /** Its piece is FREE alone while another one is TAKEN; the whole is FREE when all are. */
    private static void takenOffIsFreeOrJoined() {
        for (int first = 0; first <= 1; first++) {
            Kerfworks shop = new Kerfworks();
            int drawing = Check.rectangle(shop, 2, 2);
            shop.sheet(6, 4);
            shop.job(drawing, 1);
            shop.job(drawing, 1);
            free(shop, told(0, 6, 1));
            shop.cancel(first);
            free(shop, told(0, 3, 3), told(0, 6, 1));
            shop.cancel(1 - first);
            free(shop, told(0, 6, 4));
        }
    }

    /** Four pieces, each laid in what is right of the one before; the last one keeps all from being joined. */
    private static void joinedOutwardAsFarAsItGoes() {
        Kerfworks shop = new Kerfworks();
        int drawing = Check.rectangle(shop, 2, 2);
        shop.sheet(12, 3);
        for (int i = 0; i < 4; i++) {
            shop.job(drawing, 1);
            Check.is("in a row", shop.where(i, 0, 1), 3 * i);
        }
        free(shop);
        shop.cancel(1);
        free(shop, told(0, 3, 3));
        shop.cancel(3);
        free(shop, told(0, 3, 3), told(0, 3, 3));
        shop.cancel(2);
        free(shop, told(0, 9, 3));
        shop.job(drawing, 1);
        place(shop, 4, 0, 0, 3, 0, 8);
        shop.cancel(0);
        free(shop, told(0, 3, 3), told(0, 6, 3));
        shop.cancel(4);
        free(shop, told(0, 12, 3));
    }

    private static void joinedWithoutARightOne() {
        Kerfworks shop = new Kerfworks();
        int drawing = Check.rectangle(shop, 2, 2);
        shop.sheet(3, 9);
        for (int i = 0; i < 3; i++) {
            shop.job(drawing, 1);
            Check.is("in a column", shop.where(i, 0, 2), 3 * i);
        }
        shop.cancel(2);
        free(shop, told(0, 3, 3));
        shop.cancel(0);
        free(shop, told(0, 3, 3), told(0, 3, 3));
        shop.cancel(1);
        free(shop, told(0, 3, 9));
    }

    /**
     * A try that failed had parted sheet 1 into 3, 4 (to the right) and 5 (below); then a part as wide as that
     * sheet, or as high, leaves just one of both, and 4 and 5 are other sheets.
     */
    private static void joinedAfterATryThatFailed() {
        for (int turned = 0; turned <= 1; turned++) {
            Kerfworks shop = new Kerfworks();
            Check.rectangle(shop, 2, 2);
            Check.rectangle(shop, turned == 0 ? 4 : 2, turned == 0 ? 2 : 4);
            shop.sheet(3, 3);
            shop.sheet(5, 5);
            shop.cancel(shop.job(0, 3));
            shop.job(1, 1);
            place(shop, 1, 0, 1, 0, 0, 2);
            shop.sheet(4, 4);
            shop.sheet(4, 5);
            free(shop, told(0, 3, 3), turned == 0 ? told(1, 5, 2) : told(1, 2, 5), told(2, 4, 4), told(3, 4, 5));
            shop.cancel(1);
            free(shop, told(0, 3, 3), told(1, 5, 5), told(2, 4, 4), told(3, 4, 5));
        }
    }

    private static void cutPartsAreNeverTakenOff() {
        Kerfworks shop = new Kerfworks();
        int drawing = Check.rectangle(shop, 2, 2);
        shop.sheet(6, 3);
        shop.job(drawing, 1);
        shop.job(drawing, 1);
        shop.cut(0);
        shop.cancel(1);
        free(shop, told(0, 3, 3));
        shop.redraw(drawing);
        free(shop, told(0, 3, 3));
        place(shop, 0, 0, 0, 0, 0, 1);
    }

    private static void freeTellsTheNumber() {
        Kerfworks shop = new Kerfworks();
        Check.is("no piece", shop.free(0), -1);
        Check.noPlace("below 0", () -> shop.free(-1));
        shop.sheet(64, 64);
        Check.is("the only one", shop.free(0), 6464);
        Check.is("none after it", shop.free(1), -1);
        Check.is("none far after it", shop.free(Integer.MAX_VALUE), -1);
        Check.noPlace("far below 0", () -> shop.free(Integer.MIN_VALUE));
        for (int i = 1; i < 8; i++) {
            shop.sheet(i, 1);
        }
        Check.is("the last one", shop.free(7), 70701);
        Check.is("none is the ninth", shop.free(8), -1);
    }

    private static void whereTellsTheNumber() {
        Kerfworks shop = new Kerfworks();
        int drawing = Check.rectangle(shop, 3, 4);
        shop.sheet(8, 10);
        shop.job(drawing, 4);
        place(shop, 0, 0, 0, 0, 0, 1);
        place(shop, 0, 1, 0, 4, 0, 4);
        place(shop, 0, 2, 0, 0, 5, 5);
        place(shop, 0, 3, 0, 4, 5, 7);
        Check.noArgument("what -1", () -> shop.where(0, 0, -1));
        Check.noArgument("what 4", () -> shop.where(0, 3, 4));
        Check.noPlace("copy -1", () -> shop.where(0, -1, 0));
        Check.noPlace("copy 4", () -> shop.where(0, 4, 3));
        Check.noPlace("job -1", () -> shop.where(-1, 0, 0));
        Check.noPlace("job 1", () -> shop.where(1, 0, 0));
    }
}
