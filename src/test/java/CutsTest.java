/** Promises 11 and 15 to 17: what cutting takes, and what was cut. */
public final class CutsTest {
    private CutsTest() {
    }

    public static void main(String[] args) {
        minutesOfTheLength();
        minutesOfHeat();
        cornersTouch();
        sheetsDoNotTouch();
        otherJobsDoNotTouch();
        partsApartDoNotTouch();
        laterLeftOfEarlier();
        laterAboveEarlier();
        cutRefuses();
        cutIsForGood();
        lengthsAreAddedAsFloats();
        lengthsInTheOrderOfCutting();
        lengthsOfTheVersionThatWasCut();
        Check.end();
    }

    /** Lengths of 8, 10, 18, 20 and 124: 10 and 20 begin another minute. */
    private static void minutesOfTheLength() {
        int[][] sizes = {{3, 3, 1}, {4, 3, 2}, {6, 5, 2}, {6, 6, 3}, {32, 32, 13}};
        for (int[] size : sizes) {
            Kerfworks shop = new Kerfworks();
            int drawing = Check.rectangle(shop, size[0], size[1]);
            shop.sheet(64, 64);
            shop.job(drawing, 1);
            Check.is("cut", shop.cut(0), size[2]);
            Check.is("minutes", shop.minutes(), size[2]);
        }
    }

    private static void minutesOfHeat() {
        Kerfworks shop = new Kerfworks();
        int drawing = Check.rectangle(shop, 2, 2);
        shop.sheet(9, 6);
        shop.job(drawing, 6);
        Check.is("the fourth is in the second row", shop.where(0, 3, 2), 3);
        Check.is("each but the first touches, and counts once", shop.cut(0), 6 + 5 * 3);
        Check.is("minutes", shop.minutes(), 21);
        shop.sheet(3, 3);
        shop.job(drawing, 1);
        Check.is("one copy touches none", shop.cut(1), 1);
        Check.is("all minutes", shop.minutes(), 22);
    }

    /** Two copies are laid at (0, 0) and (3, 3), each 3 by 3, as a CUT job has what is between. */
    private static void cornersTouch() {
        Kerfworks shop = new Kerfworks();
        int small = Check.rectangle(shop, 2, 2);
        int wide = Check.rectangle(shop, 5, 2);
        shop.sheet(6, 6);
        shop.job(small, 1);
        shop.job(small, 1);
        shop.job(small, 1);
        Check.is("the third is below the first", shop.where(2, 0, 2), 3);
        shop.cut(1);
        shop.cut(2);
        shop.cancel(0);
        shop.job(small, 2);
        Check.is("one copy", shop.where(3, 0, 1), 0);
        Check.is("one copy", shop.where(3, 0, 2), 0);
        Check.is("the other copy", shop.where(3, 1, 1), 3);
        Check.is("the other copy", shop.where(3, 1, 2), 3);
        Check.is("a corner in common", shop.cut(3), 2 + 3);
        Check.is("minutes", shop.minutes(), 7);
        Check.is("the wide one waits", shop.ofJob(shop.job(wide, 1), 0), Kerfworks.WAITS);
    }

    private static void sheetsDoNotTouch() {
        Kerfworks shop = new Kerfworks();
        int drawing = Check.rectangle(shop, 2, 2);
        shop.sheet(3, 3);
        shop.sheet(3, 3);
        shop.job(drawing, 2);
        Check.is("on two sheets", shop.where(0, 1, 0), 1);
        Check.is("no heat", shop.cut(0), 2);
    }

    private static void otherJobsDoNotTouch() {
        Kerfworks shop = new Kerfworks();
        int drawing = Check.rectangle(shop, 2, 2);
        shop.sheet(6, 3);
        shop.job(drawing, 1);
        shop.job(drawing, 1);
        Check.is("no heat of other jobs", shop.cut(0), 1);
        Check.is("no heat of other jobs", shop.cut(1), 1);
        Check.is("minutes", shop.minutes(), 2);
    }

    private static void partsApartDoNotTouch() {
        Kerfworks shop = new Kerfworks();
        int drawing = Check.rectangle(shop, 2, 2);
        shop.sheet(9, 3);
        shop.job(drawing, 1);
        shop.job(drawing, 1);
        shop.job(drawing, 1);
        shop.cancel(0);
        shop.cancel(2);
        shop.job(drawing, 2);
        Check.is("at the left", shop.where(3, 0, 1), 0);
        Check.is("at the right", shop.where(3, 1, 1), 6);
        Check.is("apart by a part", shop.cut(3), 2);

        Kerfworks upright = new Kerfworks();
        int same = Check.rectangle(upright, 2, 2);
        upright.sheet(3, 9);
        upright.job(same, 1);
        upright.job(same, 1);
        upright.job(same, 1);
        upright.cancel(0);
        upright.cancel(2);
        upright.job(same, 2);
        Check.is("at the top", upright.where(3, 0, 2), 0);
        Check.is("at the bottom", upright.where(3, 1, 2), 6);
        Check.is("apart by a part", upright.cut(3), 2);
    }

    /** The first copy is laid where less is left, at the right; the second at the left of it. */
    private static void laterLeftOfEarlier() {
        for (int gap = 0; gap <= 1; gap++) {
            Kerfworks shop = new Kerfworks();
            int part = Check.rectangle(shop, 2, 4);
            int greater = Check.rectangle(shop, 2 + gap, 5);
            shop.sheet(9 + gap, 6);
            shop.job(greater, 1);
            shop.job(part, 1);
            shop.job(part, 1);
            shop.cut(2);
            shop.cancel(0);
            shop.cancel(1);
            shop.job(part, 2);
            Check.is("the first copy", shop.where(3, 0, 1), 3 + gap);
            Check.is("the second copy", shop.where(3, 1, 1), 0);
            Check.is("both in a row", shop.where(3, 0, 2), shop.where(3, 1, 2));
            Check.is("a side in common, or a gap", shop.cut(3), gap == 0 ? 2 + 3 : 2);
        }
    }

    private static void laterAboveEarlier() {
        for (int gap = 0; gap <= 1; gap++) {
            Kerfworks shop = new Kerfworks();
            int part = Check.rectangle(shop, 4, 2);
            int greater = Check.rectangle(shop, 5, 2 + gap);
            shop.sheet(6, 9 + gap);
            shop.job(greater, 1);
            shop.job(part, 1);
            shop.job(part, 1);
            shop.cut(2);
            shop.cancel(0);
            shop.cancel(1);
            shop.job(part, 2);
            Check.is("the first copy", shop.where(3, 0, 2), 3 + gap);
            Check.is("the second copy", shop.where(3, 1, 2), 0);
            Check.is("both in a column", shop.where(3, 0, 1), shop.where(3, 1, 1));
            Check.is("a side in common, or a gap", shop.cut(3), gap == 0 ? 2 + 3 : 2);
        }
    }

    private static void cutRefuses() {
        Kerfworks shop = new Kerfworks();
        Check.noPlace("cut without a job", () -> shop.cut(0));
        int drawing = Check.rectangle(shop, 2, 2);
        shop.job(drawing, 1);
        Check.noState("cut one that WAITS", () -> shop.cut(0));
        Check.noPlace("cut(-1)", () -> shop.cut(-1));
        Check.noPlace("cut(1)", () -> shop.cut(1));
        shop.sheet(5, 5);
        shop.cut(0);
        Check.noState("cut twice", () -> shop.cut(0));
        shop.job(drawing, 1);
        shop.cancel(1);
        Check.noState("cut a CANCELLED one", () -> shop.cut(1));
        Check.is("minutes", shop.minutes(), 1);
        Check.isFloat("cutLength", shop.cutLength(), 4f);
        Check.isFloat("cutAnew", shop.cutAnew(), 4f);
    }

    private static void cutIsForGood() {
        Kerfworks shop = new Kerfworks();
        int drawing = Check.rectangle(shop, 2, 2);
        shop.sheet(3, 3);
        shop.job(drawing, 1);
        shop.job(drawing, 1);
        shop.cut(0);
        Check.is("CUT", shop.ofJob(0, 0), Kerfworks.CUT);
        Check.is("its piece stays TAKEN", shop.free(0), -1);
        shop.redraw(drawing);
        Check.rectangleIn(shop, drawing, 2, 2);
        Check.is("CUT", shop.ofJob(0, 0), Kerfworks.CUT);
        Check.is("the other waits", shop.ofJob(1, 0), Kerfworks.WAITS);
        Check.is("its place", shop.where(0, 0, 3), 1);
    }

    private static float triangle(Kerfworks shop, int x, int y) {
        int drawing = shop.drawing();
        shop.stroke(drawing, 0, Check.at(x, 0));
        shop.stroke(drawing, Check.at(x, 0), Check.at(0, y));
        shop.stroke(drawing, Check.at(0, y), 0);
        Check.is("finish of a triangle", shop.finish(drawing), -1);
        float due = 0;
        due += x;
        due += (float) Math.sqrt(x * x + y * y);
        due += y;
        Check.isFloat("length of a triangle", shop.length(drawing), due);
        return due;
    }

    private static void lengthsAreAddedAsFloats() {
        Kerfworks shop = new Kerfworks();
        float first = triangle(shop, 3, 1);
        float second = triangle(shop, 2, 7);
        shop.sheet(64, 64);
        float due = 0;
        for (int i = 0; i < 8; i++) {
            shop.job(i % 2, 6);
            shop.cut(i);
            for (int copy = 0; copy < 6; copy++) {
                due += i % 2 == 0 ? first : second;
            }
            Check.isFloat("cutLength", shop.cutLength(), due);
            Check.isFloat("cutAnew", shop.cutAnew(), due);
        }
        Check.isTrue("the example tells sums from products", due != 24 * first + 24 * second);
    }

    private static void lengthsInTheOrderOfCutting() {
        Kerfworks shop = new Kerfworks();
        float[] lengths = {triangle(shop, 31, 30), triangle(shop, 1, 2), triangle(shop, 5, 8)};
        int[] order = {4, 1, 5, 0, 3, 2};
        shop.sheet(64, 64);
        shop.sheet(64, 64);
        for (int i = 0; i < 6; i++) {
            shop.job(i % 3, i < 3 ? 1 : 2);
        }
        float due = 0;
        for (int job : order) {
            shop.cut(job);
            due += lengths[job % 3];
            if (job >= 3) {
                due += lengths[job % 3];
            }
            Check.isFloat("cutLength", shop.cutLength(), due);
            Check.isFloat("cutAnew", shop.cutAnew(), due);
        }
        float byNumbers = 0;
        for (int job = 0; job < 6; job++) {
            for (int copy = 0; copy < (job < 3 ? 1 : 2); copy++) {
                byNumbers += lengths[job % 3];
            }
        }
        Check.isTrue("the example tells the orders apart", due != byNumbers);
    }

    private static void lengthsOfTheVersionThatWasCut() {
        Kerfworks shop = new Kerfworks();
        int drawing = Check.rectangle(shop, 4, 4);
        shop.sheet(20, 20);
        shop.job(drawing, 2);
        shop.cut(0);
        shop.redraw(drawing);
        Check.isFloat("cutLength after redraw", shop.cutLength(), 24f);
        Check.isFloat("cutAnew after redraw", shop.cutAnew(), 24f);
        shop.stroke(drawing, 0, 9);
        Check.isFloat("cutAnew after a stroke", shop.cutAnew(), 24f);
        shop.finish(drawing);
        shop.stroke(drawing, 9, 300);
        shop.stroke(drawing, 300, 0);
        shop.finish(drawing);
        Check.isFloat("cutAnew when FINE again", shop.cutAnew(), 24f);
        shop.redraw(drawing);
        Check.rectangleIn(shop, drawing, 3, 3);
        shop.job(drawing, 1);
        shop.cut(1);
        Check.isFloat("cutLength of both", shop.cutLength(), 32f);
        Check.isFloat("cutAnew of both", shop.cutAnew(), 32f);
    }
}
