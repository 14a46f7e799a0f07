import java.util.ArrayList;
import java.util.List;
import java.util.TreeSet;

/**
 * The document once more, as plainly as it can be said: pieces are copied as a whole before each try,
 * and joined by looking at all of them until nothing changes. Only the tests use it.
 */
final class Model {
    private static final class Design {
        List<int[]> strokes = new ArrayList<>();
        boolean fine;
        int version;
    }

    private static final class Bit {
        int sheet, x, y, w, h, of = -1;
        char is = 'F';

        Bit copy() {
            Bit b = new Bit();
            b.sheet = sheet;
            b.x = x;
            b.y = y;
            b.w = w;
            b.h = h;
            b.of = of;
            b.is = is;
            return b;
        }
    }

    private static final class Order {
        int design, copies, state, version = -1;
        List<Integer> bits = new ArrayList<>();
    }

    private final List<Design> designs = new ArrayList<>();
    private List<Bit> bits = new ArrayList<>();
    private final List<Order> orders = new ArrayList<>();
    private final List<List<int[]>> cutCopies = new ArrayList<>();
    private int sheets;
    private int minutes;

    private Design design(int i) {
        if (i < 0 || i >= designs.size()) {
            throw new IndexOutOfBoundsException();
        }
        return designs.get(i);
    }

    private Order order(int i) {
        if (i < 0 || i >= orders.size()) {
            throw new IndexOutOfBoundsException();
        }
        return orders.get(i);
    }

    private static void state(boolean holds) {
        if (!holds) {
            throw new IllegalStateException();
        }
    }

    private static void argument(boolean holds) {
        if (!holds) {
            throw new IllegalArgumentException();
        }
    }

    private static void place(boolean holds) {
        if (!holds) {
            throw new IndexOutOfBoundsException();
        }
    }

    int drawing() {
        state(designs.size() < 12);
        designs.add(new Design());
        return designs.size() - 1;
    }

    int stroke(int drawing, int from, int to) {
        Design d = design(drawing);
        place(from >= 0 && from < 1024 && to >= 0 && to < 1024);
        argument(from != to);
        state(!d.fine && d.strokes.size() < 24);
        d.strokes.add(new int[] {from, to});
        return d.strokes.size();
    }

    int finish(int drawing) {
        Design d = design(drawing);
        state(!d.fine);
        List<int[]> kept = new ArrayList<>();
        TreeSet<Integer> pairs = new TreeSet<>();
        for (int[] s : d.strokes) {
            if (pairs.add(Math.min(s[0], s[1]) * 10000 + Math.max(s[0], s[1]))) {
                kept.add(s);
            }
        }
        d.strokes = kept;
        if (kept.isEmpty()) {
            return 1024;
        }
        int[] at = new int[1024];
        for (int[] s : kept) {
            at[s[0]]++;
            at[s[1]]++;
        }
        for (int point = 0; point < 1024; point++) {
            if (at[point] != 0 && at[point] != 2) {
                return point;
            }
        }
        d.fine = true;
        tryAll();
        return -1;
    }

    int redraw(int drawing) {
        Design d = design(drawing);
        state(d.fine);
        TreeSet<Integer> shared = new TreeSet<>();
        for (Order o : orders) {
            if (o.state == 1 && o.design == drawing) {
                for (int bit : o.bits) {
                    shared.add(bits.get(bit).sheet);
                }
            }
        }
        d.fine = false;
        d.version++;
        d.strokes = new ArrayList<>();
        int count = 0;
        for (int i = orders.size() - 1; i >= 0; i--) {
            Order o = orders.get(i);
            boolean shares = false;
            for (int bit : o.bits) {
                shares |= shared.contains(bits.get(bit).sheet);
            }
            if (o.state == 1 && shares) {
                count++;
                takeOff(o, 0);
            }
        }
        tryAll();
        return count;
    }

    private void takeOff(Order o, int state) {
        for (int bit : o.bits) {
            bits.get(bit).is = 'F';
        }
        o.bits.clear();
        o.version = -1;
        o.state = state;
        boolean changed = true;
        while (changed) {
            changed = false;
            for (int i = 0; i < bits.size(); i++) {
                changed |= bits.get(i).is == 'P' && joined(i);
            }
        }
    }

    private boolean joined(int whole) {
        for (Bit b : bits) {
            if (b.of == whole && b.is != 'F' && b.is != 'G') {
                return false;
            }
        }
        for (Bit b : bits) {
            if (b.of == whole) {
                b.is = 'G';
            }
        }
        bits.get(whole).is = 'F';
        return true;
    }

    private void tryAll() {
        for (Order o : orders) {
            if (o.state == 0) {
                tryOne(o);
            }
        }
    }

    private void tryOne(Order o) {
        if (!designs.get(o.design).fine) {
            return;
        }
        List<Bit> before = new ArrayList<>();
        for (Bit b : bits) {
            before.add(b.copy());
        }
        List<Integer> laid = new ArrayList<>();
        int w = extent(o.design, true) + 1;
        int h = extent(o.design, false) + 1;
        for (int i = 0; i < o.copies; i++) {
            int got = lay(w, h);
            if (got < 0 || bits.size() > 400) {
                bits = before;
                return;
            }
            laid.add(got);
        }
        o.bits = laid;
        o.state = 1;
        o.version = designs.get(o.design).version;
    }

    private int lay(int w, int h) {
        int best = -1;
        for (int i = bits.size() - 1; i >= 0; i--) {
            Bit b = bits.get(i);
            if (b.is == 'F' && b.w >= w && b.h >= h
                && (best < 0 || b.w * b.h <= bits.get(best).w * bits.get(best).h)) {
                best = i;
            }
        }
        if (best < 0) {
            return -1;
        }
        Bit whole = bits.get(best);
        whole.is = 'P';
        int got = bits.size();
        addBit(best, 'T', new int[] {whole.x, whole.y, w, h});
        addBit(best, 'F', new int[] {whole.x + w, whole.y, whole.w - w, h});
        addBit(best, 'F', new int[] {whole.x, whole.y + h, whole.w, whole.h - h});
        return got;
    }

    private void addBit(int whole, char is, int[] box) {
        if (box[2] == 0 || box[3] == 0) {
            return;
        }
        Bit b = new Bit();
        b.sheet = bits.get(whole).sheet;
        b.of = whole;
        b.is = is;
        b.x = box[0];
        b.y = box[1];
        b.w = box[2];
        b.h = box[3];
        bits.add(b);
    }

    private int extent(int drawing, boolean across) {
        TreeSet<Integer> seen = new TreeSet<>();
        for (int[] s : designs.get(drawing).strokes) {
            for (int point : s) {
                seen.add(across ? point & 31 : point >> 5);
            }
        }
        return seen.isEmpty() ? 0 : seen.last() - seen.first() + 1;
    }

    int ofDrawing(int drawing, int what) {
        Design d = design(drawing);
        argument(what >= 0 && what <= 4);
        int[] all = {d.fine ? 1 : 0, d.strokes.size(), extent(drawing, true), extent(drawing, false), d.version};
        return all[what];
    }

    private static float lengthOf(List<int[]> strokes) {
        float sum = 0;
        for (int[] s : strokes) {
            int x = (s[0] & 31) - (s[1] & 31);
            int y = (s[0] >> 5) - (s[1] >> 5);
            sum += (float) Math.sqrt(x * x + y * y);
        }
        return sum;
    }

    float length(int drawing) {
        return lengthOf(design(drawing).strokes);
    }

    int sheet(int wide, int high) {
        argument(wide >= 1 && wide <= 64 && high >= 1 && high <= 64);
        state(sheets < 8 && bits.size() < 400);
        Bit b = new Bit();
        b.sheet = sheets++;
        b.w = wide;
        b.h = high;
        bits.add(b);
        tryAll();
        return b.sheet;
    }

    int job(int drawing, int copies) {
        Design d = design(drawing);
        argument(copies >= 1 && copies <= 6);
        state(d.fine && orders.size() < 30);
        Order o = new Order();
        o.design = drawing;
        o.copies = copies;
        orders.add(o);
        tryOne(o);
        return orders.size() - 1;
    }

    int cancel(int job) {
        Order o = order(job);
        state(o.state < 2);
        int was = o.state;
        takeOff(o, 3);
        tryAll();
        return was;
    }

    int cut(int job) {
        Order o = order(job);
        state(o.state == 1);
        o.state = 2;
        int took = 0;
        for (int i = 0; i < o.copies; i++) {
            cutCopies.add(designs.get(o.design).strokes);
            took += (int) Math.floor(lengthOf(designs.get(o.design).strokes) / 10f) + 1;
            boolean hot = false;
            for (int j = 0; j < i; j++) {
                hot |= touching(bits.get(o.bits.get(i)), bits.get(o.bits.get(j)));
            }
            took += hot ? 3 : 0;
        }
        minutes += took;
        return took;
    }

    /** Looks for a lattice point that both have, of those at their sides. */
    private static boolean touching(Bit a, Bit b) {
        for (int x = a.x; x <= a.x + a.w; x++) {
            for (int y = a.y; y <= a.y + a.h; y++) {
                if (a.sheet == b.sheet && x >= b.x && x <= b.x + b.w && y >= b.y && y <= b.y + b.h) {
                    return true;
                }
            }
        }
        return false;
    }

    int ofJob(int job, int what) {
        Order o = order(job);
        argument(what >= 0 && what <= 3);
        return new int[] {o.state, o.design, o.copies, o.version}[what];
    }

    int where(int job, int copy, int what) {
        Order o = order(job);
        place(copy >= 0 && copy < o.copies);
        argument(what >= 0 && what <= 3);
        if (o.state == 0 || o.state == 3) {
            return -1;
        }
        int bit = o.bits.get(copy);
        Bit b = bits.get(bit);
        return new int[] {b.sheet, b.x, b.y, bit}[what];
    }

    int free(int place) {
        place(place >= 0);
        List<Integer> all = new ArrayList<>();
        for (Bit b : bits) {
            if (b.is == 'F') {
                all.add(10000 * b.sheet + 100 * b.w + b.h);
            }
        }
        return place < all.size() ? all.get(place) : -1;
    }

    int minutes() {
        return minutes;
    }

    float cutLength() {
        float sum = 0;
        for (List<int[]> strokes : cutCopies) {
            sum += lengthOf(strokes);
        }
        return sum;
    }

    int pieces() {
        return bits.size();
    }

    int jobs() {
        return orders.size();
    }
}
