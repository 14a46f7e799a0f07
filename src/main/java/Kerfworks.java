import java.util.ArrayList;

/** A laser cutter's job shop; ../shared/DOC.md says what it does, as numbered promises. */
public final class Kerfworks {
    public static final int NONE = -1;
    public static final int OPEN = 0, FINE = 1;
    public static final int WAITS = 0, NESTED = 1, CUT = 2, CANCELLED = 3;

    private static final int MOST_DRAWINGS = 12;
    private static final int MOST_STROKES = 24;
    private static final int POINTS_A_ROW = 32;
    private static final int POINTS = POINTS_A_ROW * POINTS_A_ROW;
    private static final int NO_POINT = POINTS;
    private static final int MOST_SHEETS = 8;
    private static final int MOST_SIDE = 64;
    private static final int MOST_PIECES = 400;
    private static final int MOST_JOBS = 30;
    private static final int MOST_COPIES = 6;
    private static final int MINUTES_FOR_HEAT = 3;

    private final ArrayList<Drawing> drawings;
    private final ArrayList<Job> jobs;
    private final ArrayList<Job> cutJobs;
    private final Stock stock;
    private int minutesSoFar;
    private float lengthSoFar;

    public Kerfworks() {
        drawings = new ArrayList<Drawing>();
        jobs = new ArrayList<Job>();
        cutJobs = new ArrayList<Job>();
        stock = new Stock();
    }

    public int drawing() throws IllegalStateException {
        if (drawings.size() >= MOST_DRAWINGS) {
            throw new IllegalStateException("there are 12 drawings");
        }
        int number = drawings.size();
        drawings.add(new Drawing(number));
        return number;
    }

    public int stroke(int drawing, int from, int to)
            throws IndexOutOfBoundsException, IllegalArgumentException, IllegalStateException {
        Drawing drawn = drawingAt(drawing);
        if (!isPoint(from) || !isPoint(to)) {
            throw new IndexOutOfBoundsException("no such point");
        }
        if (from == to) {
            throw new IllegalArgumentException("both points are one");
        }
        if (drawn.state != OPEN || drawn.outline.size >= MOST_STROKES) {
            throw new IllegalStateException("the drawing is not OPEN, or has 24 strokes");
        }
        drawn.outline.add(from, to);
        return drawn.outline.size;
    }

    public int finish(int drawing) throws IndexOutOfBoundsException, IllegalStateException {
        Drawing drawn = drawingAt(drawing);
        if (drawn.state != OPEN) {
            throw new IllegalStateException("the drawing is not OPEN");
        }
        drawn.outline.dropDoubled();
        int wrong = drawn.outline.firstWrongPoint();
        if (wrong == NONE) {
            drawn.state = FINE;
            tryWaiting();
        }
        return wrong;
    }

    public int redraw(int drawing) throws IndexOutOfBoundsException, IllegalStateException {
        Drawing drawn = drawingAt(drawing);
        if (drawn.state != FINE) {
            throw new IllegalStateException("the drawing is not FINE");
        }
        int sheets = sheetsUnder(drawn);
        drawn.openAgain();
        int off = clearSheets(sheets);
        tryWaiting();
        return off;
    }

    public int ofDrawing(int drawing, int what)
            throws IndexOutOfBoundsException, IllegalArgumentException {
        Drawing drawn = drawingAt(drawing);
        switch (what) {
            case 0:
                return drawn.state;
            case 1:
                return drawn.outline.size;
            case 2:
                return drawn.outline.wide();
            case 3:
                return drawn.outline.high();
            case 4:
                return drawn.version;
            default:
                throw new IllegalArgumentException("what is out of range");
        }
    }

    public float length(int drawing) throws IndexOutOfBoundsException {
        return drawingAt(drawing).outline.sumOfStrokes();
    }

    public int sheet(int wide, int high) throws IllegalArgumentException, IllegalStateException {
        if (!isSide(wide) || !isSide(high)) {
            throw new IllegalArgumentException("wide or high is out of range");
        }
        if (stock.sheetCount >= MOST_SHEETS || stock.pieceCount >= MOST_PIECES) {
            throw new IllegalStateException("there are 8 sheets, or 400 pieces");
        }
        int number = stock.bring(wide, high);
        tryWaiting();
        return number;
    }

    public int job(int drawing, int copies)
            throws IndexOutOfBoundsException, IllegalArgumentException, IllegalStateException {
        Drawing drawn = drawingAt(drawing);
        if (copies < 1 || copies > MOST_COPIES) {
            throw new IllegalArgumentException("copies is out of range");
        }
        if (drawn.state != FINE || jobs.size() >= MOST_JOBS) {
            throw new IllegalStateException("the drawing is not FINE, or there are 30 jobs");
        }
        int number = jobs.size();
        Job taken = new Job(drawn, copies);
        jobs.add(taken);
        taken.nestOn(stock);
        return number;
    }

    public int cancel(int job) throws IndexOutOfBoundsException, IllegalStateException {
        Job ended = jobAt(job);
        int state = ended.state;
        if (state == CUT || state == CANCELLED) {
            throw new IllegalStateException("the job is CUT or CANCELLED");
        }
        ended.takeOff();
        ended.state = CANCELLED;
        tryWaiting();
        return state;
    }

    public int cut(int job) throws IndexOutOfBoundsException, IllegalStateException {
        Job done = jobAt(job);
        if (done.state != NESTED) {
            throw new IllegalStateException("the job is not NESTED");
        }
        float drawn = done.design.outline.sumOfStrokes();
        int taken = done.minutesFor(drawn);
        done.keepStrokes();
        done.state = CUT;
        cutJobs.add(done);
        minutesSoFar += taken;
        lengthSoFar = addedForCopies(lengthSoFar, drawn, done.copies);
        return taken;
    }

    public int ofJob(int job, int what) throws IndexOutOfBoundsException, IllegalArgumentException {
        Job asked = jobAt(job);
        switch (what) {
            case 0:
                return asked.state;
            case 1:
                return asked.design.number;
            case 2:
                return asked.copies;
            case 3:
                return asked.version;
            default:
                throw new IllegalArgumentException("what is out of range");
        }
    }

    public int where(int job, int copy, int what)
            throws IndexOutOfBoundsException, IllegalArgumentException {
        Job asked = jobAt(job);
        if (copy < 0 || copy >= asked.copies) {
            throw new IndexOutOfBoundsException("no such copy");
        }
        if (what < 0 || what > 3) {
            throw new IllegalArgumentException("what is out of range");
        }
        if (copy >= asked.laid.size()) {
            return NONE;
        }
        Piece piece = asked.laid.get(copy);
        switch (what) {
            case 0:
                return piece.sheetNumber;
            case 1:
                return piece.left;
            case 2:
                return piece.top;
            default:
                return piece.number;
        }
    }

    public int free(int place) throws IndexOutOfBoundsException {
        if (place < 0) {
            throw new IndexOutOfBoundsException("no such place");
        }
        Piece piece = stock.freeAt(place);
        return piece == null ? NONE : 10000 * piece.sheetNumber + 100 * piece.wide + piece.high;
    }

    public int minutes() {
        return minutesSoFar;
    }

    public float cutLength() {
        return lengthSoFar;
    }

    public float cutAnew() {
        float sum = 0;
        for (int i = 0; i < cutJobs.size(); i++) {
            Job done = cutJobs.get(i);
            sum = addedForCopies(sum, done.cutStrokes.sumOfStrokes(), done.copies);
        }
        return sum;
    }

    private Drawing drawingAt(int number) {
        if (number < 0 || number >= drawings.size()) {
            throw new IndexOutOfBoundsException("no such drawing");
        }
        return drawings.get(number);
    }

    private Job jobAt(int number) {
        if (number < 0 || number >= jobs.size()) {
            throw new IndexOutOfBoundsException("no such job");
        }
        return jobs.get(number);
    }

    private static boolean isPoint(int point) {
        return point >= 0 && point < POINTS;
    }

    private static boolean isSide(int side) {
        return side >= 1 && side <= MOST_SIDE;
    }

    /** Floats are rounded at each addition, so that a product would be another number. */
    private static float addedForCopies(float sum, float drawn, int copies) {
        float more = sum;
        for (int copy = 0; copy < copies; copy++) {
            more = more + drawn;
        }
        return more;
    }

    private void tryWaiting() {
        for (int i = 0; i < jobs.size(); i++) {
            Job job = jobs.get(i);
            if (job.state == WAITS && job.design.state == FINE) {
                job.nestOn(stock);
            }
        }
    }

    /** The sheets with a part of the drawing's NESTED jobs, a bit for each. */
    private int sheetsUnder(Drawing drawn) {
        int sheets = 0;
        for (int i = 0; i < jobs.size(); i++) {
            Job job = jobs.get(i);
            if (job.state == NESTED && job.design == drawn) {
                sheets |= job.sheetsUsed();
            }
        }
        return sheets;
    }

    private int clearSheets(int sheets) {
        int off = 0;
        for (int i = jobs.size() - 1; i >= 0; i--) {
            Job job = jobs.get(i);
            if (job.state == NESTED && (job.sheetsUsed() & sheets) != 0) {
                job.takeOff();
                off++;
            }
        }
        return off;
    }

    /** Strokes in their order: those of a drawing, or those that a job has cut. */
    private static final class Outline {
        /** A stroke is POINTS times its first point and its last one, together. */
        final int[] strokes = new int[MOST_STROKES];
        int size;

        void add(int from, int to) {
            if (size >= 0 && size < strokes.length) {
                strokes[size] = POINTS * from + to;
                size++;
            }
        }

        void clear() {
            size = 0;
        }

        void copy(Outline other) {
            System.arraycopy(other.strokes, 0, strokes, 0, MOST_STROKES);
            size = other.size;
        }

        void dropDoubled() {
            int before = size;
            size = 0;
            for (int i = 0; i < before && i < strokes.length; i++) {
                int from = fromOf(strokes[i]);
                int to = toOf(strokes[i]);
                if (!has(from, to)) {
                    add(from, to);
                }
            }
        }

        private boolean has(int one, int other) {
            for (int i = 0; i < size && i < strokes.length; i++) {
                int from = fromOf(strokes[i]);
                int to = toOf(strokes[i]);
                if (from == one && to == other || from == other && to == one) {
                    return true;
                }
            }
            return false;
        }

        /** The least point that has not just two strokes: NONE if each has, NO_POINT without strokes. */
        int firstWrongPoint() {
            if (size == 0) {
                return NO_POINT;
            }
            int first = NO_POINT;
            for (int i = 0; i < size && i < strokes.length; i++) {
                first = Math.min(first, wrongOrNoPoint(fromOf(strokes[i])));
                first = Math.min(first, wrongOrNoPoint(toOf(strokes[i])));
            }
            return first == NO_POINT ? NONE : first;
        }

        private int wrongOrNoPoint(int point) {
            return strokesAt(point) == 2 ? NO_POINT : point;
        }

        private int strokesAt(int point) {
            int count = 0;
            for (int i = 0; i < size && i < strokes.length; i++) {
                if (fromOf(strokes[i]) == point || toOf(strokes[i]) == point) {
                    count++;
                }
            }
            return count;
        }

        int wide() {
            int least = POINTS_A_ROW;
            int greatest = -1;
            for (int i = 0; i < size && i < strokes.length; i++) {
                int from = xOf(fromOf(strokes[i]));
                int to = xOf(toOf(strokes[i]));
                least = Math.min(least, Math.min(from, to));
                greatest = Math.max(greatest, Math.max(from, to));
            }
            return size == 0 ? 0 : greatest - least + 1;
        }

        int high() {
            int least = POINTS_A_ROW;
            int greatest = -1;
            for (int i = 0; i < size && i < strokes.length; i++) {
                int from = yOf(fromOf(strokes[i]));
                int to = yOf(toOf(strokes[i]));
                least = Math.min(least, Math.min(from, to));
                greatest = Math.max(greatest, Math.max(from, to));
            }
            return size == 0 ? 0 : greatest - least + 1;
        }

        float sumOfStrokes() {
            float sum = 0;
            for (int i = 0; i < size && i < strokes.length; i++) {
                sum = sum + distance(fromOf(strokes[i]), toOf(strokes[i]));
            }
            return sum;
        }

        private static int fromOf(int stroke) {
            return stroke / POINTS;
        }

        private static int toOf(int stroke) {
            return stroke % POINTS;
        }

        private static int xOf(int point) {
            return point % POINTS_A_ROW;
        }

        private static int yOf(int point) {
            return point / POINTS_A_ROW;
        }

        private static float distance(int from, int to) {
            int across = xOf(from) - xOf(to);
            int down = yOf(from) - yOf(to);
            return (float) root(across * across + down * down);
        }

        /**
         * Newton's steps from above: for 1922, the greatest square here, twelve are enough. What they
         * leave is far less than the distance of such a root from the middle of two floats, so
         * that it makes the same float as the root that is rounded to a double.
         */
        private static double root(int square) {
            if (square <= 0) {
                return 0;
            }
            double root = square;
            for (int step = 0; step < 16 && root > 0; step++) {
                root = (root + square / root) / 2;
            }
            return root;
        }
    }

    private static final class Drawing {
        final int number;
        final Outline outline = new Outline();
        int state = OPEN;
        int version;

        Drawing(int number) {
            this.number = number;
        }

        void openAgain() {
            outline.clear();
            state = OPEN;
            version++;
        }
    }

    private static final class Piece {
        static final int FREE = 0, TAKEN = 1, PARTED = 2, GONE = 3;

        final int number;
        int sheetNumber;
        int left;
        int top;
        int wide;
        int high;
        int state;
        /** The PARTED piece of which this is a piece; null for a sheet. */
        Piece whole;
        /** The pieces of a PARTED piece; the latter two are null if they would have nothing. */
        Piece part;
        Piece right;
        Piece below;

        Piece(int number) {
            this.number = number;
        }

        void begin(Piece whole, int sheetNumber, int left, int top, int wide, int high) {
            this.whole = whole;
            this.sheetNumber = sheetNumber;
            this.left = left;
            this.top = top;
            this.wide = wide;
            this.high = high;
            state = FREE;
            joinPieces();
        }

        boolean holds(int partWide, int partHigh) {
            return state == FREE && wide >= partWide && high >= partHigh;
        }

        int area() {
            return wide * high;
        }

        boolean touches(Piece other) {
            return sheetNumber == other.sheetNumber
                && left <= other.left + other.wide && other.left <= left + wide
                && top <= other.top + other.high && other.top <= top + high;
        }

        /** Takes the part off this piece, and joins outward what can be joined. */
        void release() {
            state = FREE;
            for (Piece outer = whole; outer != null && outer.hasAllFree(); outer = outer.whole) {
                outer.endPieces();
                outer.state = FREE;
            }
        }

        private boolean hasAllFree() {
            return isFreeOrNone(part) && isFreeOrNone(right) && isFreeOrNone(below);
        }

        private static boolean isFreeOrNone(Piece piece) {
            return piece == null || piece.state == FREE;
        }

        private void endPieces() {
            end(part);
            end(right);
            end(below);
            joinPieces();
        }

        private static void end(Piece piece) {
            if (piece != null) {
                piece.state = GONE;
            }
        }

        void joinPieces() {
            part = null;
            right = null;
            below = null;
        }
    }

    /** All pieces by their numbers, those that are GONE too. */
    private static final class Stock {
        /** May hold more than pieceCount: numbers given again use the objects again. */
        final ArrayList<Piece> pieces = new ArrayList<Piece>();
        int pieceCount;
        int sheetCount;

        int bring(int wide, int high) {
            int number = sheetCount;
            next().begin(null, number, 0, 0, wide, high);
            sheetCount++;
            return number;
        }

        private Piece next() {
            int number = pieceCount;
            pieceCount++;
            if (number >= 0 && number < pieces.size()) {
                return pieces.get(number);
            }
            Piece piece = new Piece(number);
            pieces.add(piece);
            return piece;
        }

        /** Returns the piece that the part takes, null if it can't be laid. */
        Piece lay(int wide, int high) {
            Piece whole = bestFor(wide, high);
            if (whole == null || pieceCount + piecesOf(whole, wide, high) > MOST_PIECES) {
                return null;
            }
            Piece part = pieceOf(whole, whole.left, whole.top, wide, high);
            part.state = Piece.TAKEN;
            whole.state = Piece.PARTED;
            whole.part = part;
            if (whole.wide > wide) {
                whole.right = pieceOf(whole, whole.left + wide, whole.top, whole.wide - wide, high);
            }
            if (whole.high > high) {
                whole.below = pieceOf(whole, whole.left, whole.top + high, whole.wide, whole.high - high);
            }
            return part;
        }

        private static int piecesOf(Piece whole, int wide, int high) {
            return 1 + (whole.wide > wide ? 1 : 0) + (whole.high > high ? 1 : 0);
        }

        private Piece pieceOf(Piece whole, int left, int top, int wide, int high) {
            Piece piece = next();
            piece.begin(whole, whole.sheetNumber, left, top, wide, high);
            return piece;
        }

        private Piece bestFor(int wide, int high) {
            Piece best = null;
            for (int i = 0; i < pieceCount && i < pieces.size(); i++) {
                Piece piece = pieces.get(i);
                if (piece.holds(wide, high) && (best == null || piece.area() < best.area())) {
                    best = piece;
                }
            }
            return best;
        }

        /** Undoes what was laid last, as if it had never been: the numbers are given again. */
        void undo(ArrayList<Piece> laid, int pieceCountBefore) {
            for (int i = laid.size() - 1; i >= 0; i--) {
                Piece whole = laid.get(i).whole;
                if (whole != null) {
                    whole.joinPieces();
                    whole.state = Piece.FREE;
                }
            }
            pieceCount = pieceCountBefore;
        }

        Piece freeAt(int place) {
            int found = 0;
            for (int i = 0; i < pieceCount && i < pieces.size(); i++) {
                Piece piece = pieces.get(i);
                if (piece.state == Piece.FREE) {
                    if (found == place) {
                        return piece;
                    }
                    found++;
                }
            }
            return null;
        }
    }

    private static final class Job {
        final Drawing design;
        final int copies;
        int state = WAITS;
        int version = NONE;
        /** The pieces of the copies, in their order; empty if it is neither NESTED nor CUT. */
        final ArrayList<Piece> laid = new ArrayList<Piece>();
        /** A drawing can be opened again after the cut, so that a job keeps what it has cut. */
        final Outline cutStrokes = new Outline();

        Job(Drawing design, int copies) {
            this.design = design;
            this.copies = copies;
        }

        void nestOn(Stock stock) {
            int before = stock.pieceCount;
            int wide = design.outline.wide() + 1;
            int high = design.outline.high() + 1;
            for (int copy = 0; copy < copies; copy++) {
                Piece piece = stock.lay(wide, high);
                if (piece == null) {
                    stock.undo(laid, before);
                    laid.clear();
                    return;
                }
                laid.add(piece);
            }
            state = NESTED;
            version = design.version;
        }

        void takeOff() {
            for (int i = 0; i < laid.size(); i++) {
                laid.get(i).release();
            }
            laid.clear();
            state = WAITS;
            version = NONE;
        }

        int sheetsUsed() {
            int sheets = 0;
            for (int i = 0; i < laid.size(); i++) {
                sheets |= 1 << laid.get(i).sheetNumber;
            }
            return sheets;
        }

        void keepStrokes() {
            cutStrokes.copy(design.outline);
        }

        int minutesFor(float drawn) {
            int minutes = copies * ((int) (drawn / 10f) + 1);
            for (int copy = 0; copy < laid.size(); copy++) {
                if (touchesEarlier(laid.get(copy), copy)) {
                    minutes += MINUTES_FOR_HEAT;
                }
            }
            return minutes;
        }

        private boolean touchesEarlier(Piece piece, int copy) {
            for (int i = 0; i < copy && i < laid.size(); i++) {
                if (piece.touches(laid.get(i))) {
                    return true;
                }
            }
            return false;
        }
    }
}
