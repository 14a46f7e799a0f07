import java.util.function.Consumer;
import java.util.function.IntSupplier;
import java.util.function.Supplier;

/** Shops with which several tests begin, and all that a shop answers, as one text. None gets more than 512 calls. */
final class Shops {
    /** The jobs of wouldFit(). */
    static final int FILLS = 4;
    static final int WOULD_FIT = 5;
    static final int TOO_BIG = 6;
    static final int LAST = 7;
    private static final int USED_BY_SIX = 13;
    private static final int JOBS_BEFORE = 4;

    private Shops() {
    }

    /**
     * A shop with so many pieces, from 20 on, all but one of them GONE. Its sheet 0, 33 by 33, is FREE,
     * drawing 0 is 2 by 2 and FINE, jobs 0 to 3 are CANCELLED.
     *
     * Copies in a row use three pieces for the first one and two for each other one; numbers of pieces that
     * are GONE are not given again.
     */
    static Kerfworks withPieces(int pieces) {
        int left = pieces - 1 - USED_BY_SIX;
        int rounds = Math.max(0, (left - 5) / USED_BY_SIX);
        left -= rounds * USED_BY_SIX;
        int jobs = 1;
        for (int rest = left; rest > 0; rest -= usedAtOnce(rest)) {
            jobs++;
        }
        Kerfworks shop = new Kerfworks();
        Check.rectangle(shop, 2, 2);
        for (; jobs < JOBS_BEFORE; jobs++) {
            shop.cancel(shop.job(0, 1));
        }
        shop.sheet(33, 33);
        int six = shop.job(0, 6);
        for (int round = 0; round < rounds; round++) {
            shop.redraw(0);
            Check.rectangleIn(shop, 0, 2, 2);
        }
        shop.cancel(six);
        for (int rest = left; rest > 0; rest -= usedAtOnce(rest)) {
            shop.cancel(shop.job(0, (usedAtOnce(rest) - 1) / 2));
        }
        return shop;
    }

    /** The most that one job can use so that other jobs can use the rest: 3, 5, 7, 9, 11 or 13 each. */
    private static int usedAtOnce(int left) {
        for (int used = USED_BY_SIX; used >= 3; used -= 2) {
            int rest = left - used;
            if (rest == 0 || rest == 3 || rest >= 5) {
                return used;
            }
        }
        throw new IllegalArgumentException("no jobs use " + left);
    }

    /** As withPieces, but job 4 of drawing 1, as large as can be, takes sheet 0 as a whole and is CUT. */
    static Kerfworks withPiecesAndNoRoom(int pieces) {
        Kerfworks shop = withPieces(pieces - 1);
        Check.is("job that fills", shop.job(Check.rectangle(shop, 32, 32), 1), FILLS);
        Check.is("the last piece", shop.where(FILLS, 0, 3), pieces - 1);
        shop.cut(FILLS);
        return shop;
    }

    /**
     * A shop whose job WOULD_FIT WAITS, and would be nested on sheet 2 if it were tried, in pieces 393, 395
     * and 397. When it was taken, its three copies would have had to be laid on sheet 1, with nine pieces to
     * the 392 that there were; job LAST takes that sheet as a whole since.
     * Job TOO_BIG WAITS for a sheet that doesn't come. Drawings 3 and 4, 3 FINE and 4 OPEN with three strokes
     * of which one is doubled, have no jobs.
     */
    static Kerfworks wouldFit() {
        Kerfworks shop = withPiecesAndNoRoom(390);
        int middle = Check.rectangle(shop, 4, 10);
        Check.rectangle(shop, 7, 2);
        shop.drawing();
        shop.stroke(4, 0, 1);
        shop.stroke(4, 1, 0);
        shop.stroke(4, 1, 33);
        shop.sheet(5, 11);
        shop.sheet(3, 19);
        Check.is("one that would fit later", shop.job(0, 3), WOULD_FIT);
        Check.is("one that is too big", shop.job(1, 1), TOO_BIG);
        Check.is("one that takes a sheet", shop.job(middle, 1), LAST);
        return shop;
    }

    /** Drawings, sheets and jobs of all kinds: each job's number is how it is; job 4 WAITS as its drawing is OPEN. */
    static Kerfworks ofAllKinds() {
        Kerfworks shop = new Kerfworks();
        Check.rectangle(shop, 2, 2);
        Check.rectangle(shop, 20, 3);
        Check.rectangle(shop, 3, 3);
        shop.drawing();
        shop.stroke(3, 0, 1);
        shop.stroke(3, 1, 0);
        shop.stroke(3, 1, 2);
        shop.drawing();
        shop.sheet(16, 7);
        shop.job(1, 1);
        shop.job(0, 2);
        shop.job(0, 3);
        shop.cut(2);
        shop.cancel(shop.job(0, 4));
        shop.job(2, 5);
        shop.redraw(2);
        shop.stroke(2, 5, 6);
        return shop;
    }

    /** 12 drawings, 0 FINE, 1 OPEN with 24 strokes; 8 sheets; 30 jobs, 0 NESTED, 1 CUT, 2 CANCELLED, others WAIT. */
    static Kerfworks full() {
        Kerfworks shop = new Kerfworks();
        Check.rectangle(shop, 2, 2);
        for (int i = 1; i < 12; i++) {
            shop.drawing();
        }
        for (int i = 0; i < 24; i++) {
            shop.stroke(1, i, i + 1);
        }
        for (int i = 0; i < 30; i++) {
            shop.job(0, 1);
            if (i == 0) {
                shop.sheet(6, 3);
            }
        }
        for (int i = 1; i < 8; i++) {
            shop.sheet(2, 64);
        }
        shop.cut(1);
        shop.cancel(2);
        return shop;
    }

    /** 400 pieces, on one sheet, which is all TAKEN; job 5 WAITS. */
    static Kerfworks fullOfPieces() {
        Kerfworks shop = withPiecesAndNoRoom(400);
        shop.job(0, 1);
        return shop;
    }

    /** All that a shop answers, and how it goes on; each part is asked of a new one. */
    static String answers(Supplier<Kerfworks> made, Consumer<Kerfworks> act) {
        Supplier<Kerfworks> acted = () -> {
            Kerfworks shop = made.get();
            act.accept(shop);
            return shop;
        };
        StringBuilder text = new StringBuilder();
        drawings(acted.get(), text);
        sums(acted.get(), text);
        int jobs = jobs(acted.get(), text);
        for (int first = 0; first < jobs; first += 8) {
            places(acted.get(), first, Math.min(jobs, first + 8), text);
        }
        goesOn(acted.get(), text);
        ends(acted.get(), text);
        return text.toString();
    }

    private static void drawings(Kerfworks shop, StringBuilder text) {
        text.append("drawings");
        for (int drawing = 0; drawing < 12; drawing++) {
            int number = drawing;
            text.append(answer(() -> Float.floatToIntBits(shop.length(number))));
            for (int what = 0; what <= 4; what++) {
                int asked = what;
                text.append(answer(() -> shop.ofDrawing(number, asked)));
            }
        }
    }

    private static void sums(Kerfworks shop, StringBuilder text) {
        text.append("\nsums").append(answer(() -> shop.minutes()));
        text.append(answer(() -> Float.floatToIntBits(shop.cutLength())));
        text.append(answer(() -> Float.floatToIntBits(shop.cutAnew())));
        text.append("\npieces");
        int free = 0;
        for (int place = 0; place < 100 && free != -1; place++) {
            free = shop.free(place);
            text.append(' ').append(free);
        }
    }

    private static int jobs(Kerfworks shop, StringBuilder text) {
        text.append("\njobs");
        int jobs = 0;
        for (int job = 0; job < 30; job++) {
            int number = job;
            for (int what = 0; what <= 3; what++) {
                int asked = what;
                String answer = answer(() -> shop.ofJob(number, asked));
                text.append(answer);
                jobs = answer.equals(" none") ? jobs : job + 1;
            }
        }
        return jobs;
    }

    private static void places(Kerfworks shop, int first, int end, StringBuilder text) {
        text.append("\nplaces");
        for (int job = first; job < end; job++) {
            int copies = shop.ofJob(job, 2);
            for (int copy = 0; copy < copies; copy++) {
                for (int what = 0; what <= 3; what++) {
                    text.append(' ').append(shop.where(job, copy, what));
                }
            }
        }
    }

    /** What is counted inside is seen in the numbers that are given next. */
    private static void goesOn(Kerfworks shop, StringBuilder text) {
        text.append("\ngoes on").append(answer(() -> shop.drawing()));
        for (int drawing = 0; drawing < 12; drawing++) {
            int number = drawing;
            text.append(answer(() -> shop.stroke(number, 1023, 0)));
            text.append(answer(() -> shop.finish(number)));
        }
        text.append(answer(() -> shop.sheet(3, 4)));
        text.append(answer(() -> shop.job(0, 1)));
        for (int number = 0; number < 30; number++) {
            int asked = number;
            text.append(answer(() -> shop.where(asked, 0, 3)));
        }
    }

    /** What is TAKEN for ever is seen when all that can be cancelled is. */
    private static void ends(Kerfworks shop, StringBuilder text) {
        text.append("\nends");
        for (int job = 0; job < 30; job++) {
            int number = job;
            text.append(answer(() -> shop.cancel(number)));
        }
        sums(shop, text);
    }

    private static String answer(IntSupplier call) {
        try {
            return " " + call.getAsInt();
        } catch (IndexOutOfBoundsException e) {
            return " none";
        } catch (IllegalStateException e) {
            return " refused";
        }
    }
}
