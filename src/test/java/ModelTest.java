import java.util.Random;
import java.util.function.Supplier;

/** All promises: runs of at most 512 calls, each answer compared with the one of the Model. */
public final class ModelTest {
    private static final int RUNS = 3000;
    private static final int CALLS = 512;

    private final Kerfworks shop = new Kerfworks();
    private final Model model = new Model();
    private final Random random;
    private final int run;
    private final int greatestSide;
    private final int sheetSide;
    private final int wrongOf;
    private final int asking;
    private int calls;
    private int drawings;

    private static int fullRuns;
    private static int cuts;
    private static int moves;
    private static int waits;

    private ModelTest(int run) {
        this.run = run;
        random = new Random(run);
        greatestSide = 1 + random.nextInt(random.nextBoolean() ? 6 : 31);
        sheetSide = random.nextBoolean() ? 64 : 4 + random.nextInt(30);
        wrongOf = 5 + random.nextInt(60);
        asking = random.nextInt(4);
    }

    public static void main(String[] args) {
        for (int run = 0; run < RUNS; run++) {
            new ModelTest(run).play();
        }
        Check.isTrue("some runs use all 400 pieces", fullRuns > 20);
        Check.isTrue("jobs are cut", cuts > 1000);
        Check.isTrue("jobs are moved", moves > 1000);
        Check.isTrue("jobs wait", waits > 1000);
        Check.end();
    }

    private void play() {
        while (calls < CALLS - 120) {
            act();
            for (int i = random.nextInt(1 + asking); i > 0 && calls < CALLS - 120; i--) {
                ask();
            }
        }
        if (model.pieces() >= 390) {
            fullRuns++;
        }
        closing();
    }

    private void act() {
        int kind = random.nextInt(100);
        if (kind < 20) {
            figure();
        } else if (kind < 26) {
            sheet();
        } else if (kind < 50) {
            job();
        } else if (kind < 60) {
            cut();
        } else if (kind < 68) {
            cancel();
        } else if (kind < 92) {
            redrawAndFinish();
        } else {
            strayStroke();
        }
    }

    private boolean wrongly() {
        return random.nextInt(wrongOf) == 0;
    }

    private int wild(int bound) {
        int[] all = {-1, bound, bound + 1, Integer.MIN_VALUE, Integer.MAX_VALUE, 0};
        return all[random.nextInt(all.length)];
    }

    private int aDrawing() {
        return wrongly() ? wild(drawings) : random.nextInt(Math.max(1, drawings));
    }

    private int aJob() {
        return wrongly() ? wild(model.jobs()) : random.nextInt(Math.max(1, model.jobs()));
    }

    private int from0(int bound) {
        return wrongly() ? wild(bound) : random.nextInt(bound);
    }

    private void same(String call, Supplier<Object> got, Supplier<Object> due) {
        calls++;
        Object answer = answerOf(got);
        Object wanted = answerOf(due);
        Check.isTrue("run " + run + ", call " + calls + ": " + call + " answered " + answer
            + ", due is " + wanted, answer.equals(wanted));
    }

    private static Object answerOf(Supplier<Object> call) {
        try {
            return call.get();
        } catch (RuntimeException e) {
            boolean byModel = e.getStackTrace()[0].getClassName().startsWith("Model");
            return byModel || Check.isThrownByTheProgram(e) ? e.getClass() : "the machine's " + e;
        }
    }

    private void figure() {
        if (drawings < 12 || wrongly()) {
            same("drawing()", () -> shop.drawing(), () -> model.drawing());
            drawings = Math.min(12, drawings + 1);
        }
        draw(drawings - 1);
        finish(drawings - 1);
    }

    /** A polygon, with strokes that are doubled now and then, often closed. */
    private void draw(int drawing) {
        int corners = random.nextInt(8) == 0 ? 3 + random.nextInt(23) : 3 + random.nextInt(3);
        int first = point();
        int last = first;
        for (int i = 1; i < corners; i++) {
            int next = point();
            stroke(drawing, last, next);
            if (random.nextInt(6) == 0) {
                stroke(drawing, next, last);
            }
            last = next;
        }
        stroke(drawing, last, first);
    }

    private int point() {
        int x = Math.min(31, random.nextInt(greatestSide + 1));
        int y = Math.min(31, random.nextInt(greatestSide + 1));
        return wrongly() ? wild(1024) : 32 * y + x;
    }

    private void stroke(int drawing, int from, int to) {
        same("stroke(" + drawing + ", " + from + ", " + to + ")",
            () -> shop.stroke(drawing, from, to), () -> model.stroke(drawing, from, to));
    }

    private void strayStroke() {
        stroke(aDrawing(), point(), point());
    }

    private void finish(int drawing) {
        same("finish(" + drawing + ")", () -> shop.finish(drawing), () -> model.finish(drawing));
    }

    private void sheet() {
        int wide = wrongly() ? wild(65) : 1 + random.nextInt(sheetSide);
        int high = wrongly() ? wild(65) : 1 + random.nextInt(sheetSide);
        same("sheet(" + wide + ", " + high + ")", () -> shop.sheet(wide, high), () -> model.sheet(wide, high));
    }

    private void job() {
        int drawing = aDrawing();
        int copies = wrongly() ? wild(7) : 1 + random.nextInt(6);
        same("job(" + drawing + ", " + copies + ")",
            () -> shop.job(drawing, copies), () -> model.job(drawing, copies));
        int last = model.jobs() - 1;
        if (last >= 0 && model.ofJob(last, 0) == Kerfworks.WAITS) {
            waits++;
        }
    }

    private void cut() {
        int job = aJob();
        int before = model.minutes();
        same("cut(" + job + ")", () -> shop.cut(job), () -> model.cut(job));
        if (model.minutes() != before) {
            cuts++;
        }
    }

    private void cancel() {
        int job = aJob();
        same("cancel(" + job + ")", () -> shop.cancel(job), () -> model.cancel(job));
    }

    private void redrawAndFinish() {
        int drawing = aDrawing();
        int[] off = new int[1];
        same("redraw(" + drawing + ")", () -> shop.redraw(drawing), () -> off[0] = model.redraw(drawing));
        moves += off[0];
        if (random.nextInt(3) != 0) {
            draw(drawing);
        }
        finish(drawing);
    }

    private void ask() {
        int drawing = aDrawing();
        int job = aJob();
        int what = from0(5);
        switch (random.nextInt(9)) {
            case 0 -> same("ofDrawing(" + drawing + ", " + what + ")",
                () -> shop.ofDrawing(drawing, what), () -> model.ofDrawing(drawing, what));
            case 1 -> same("length(" + drawing + ")", () -> shop.length(drawing), () -> model.length(drawing));
            case 2 -> same("ofJob(" + job + ", " + what + ")",
                () -> shop.ofJob(job, what), () -> model.ofJob(job, what));
            case 3, 4 -> where(job, from0(6), what);
            case 5 -> free(from0(30));
            case 6 -> same("minutes()", () -> shop.minutes(), () -> model.minutes());
            case 7 -> same("cutLength()", () -> shop.cutLength(), () -> model.cutLength());
            default -> same("cutAnew()", () -> shop.cutAnew(), () -> model.cutLength());
        }
    }

    private void where(int job, int copy, int what) {
        same("where(" + job + ", " + copy + ", " + what + ")",
            () -> shop.where(job, copy, what), () -> model.where(job, copy, what));
    }

    private void free(int place) {
        same("free(" + place + ")", () -> shop.free(place), () -> model.free(place));
    }

    /** Asks for as much of the state as there are calls left. */
    private void closing() {
        same("minutes()", () -> shop.minutes(), () -> model.minutes());
        same("cutLength()", () -> shop.cutLength(), () -> model.cutLength());
        same("cutAnew()", () -> shop.cutAnew(), () -> model.cutLength());
        for (int job = 0; job < model.jobs() && calls < CALLS; job++) {
            where(job, model.ofJob(job, 2) - 1, 3);
        }
        for (int place = 0; model.free(place) != -1 && calls < CALLS - 1; place++) {
            free(place);
        }
        while (calls < CALLS) {
            ask();
        }
    }
}
