/** What the tests have in common: comparing answers, and drawing simple figures. */
final class Check {
    private static int checked = 0;
    private static int wrong = 0;

    private Check() {
    }

    static void is(String call, long got, long due) {
        checked++;
        if (got != due) {
            report(call + " answered " + got + ", due is " + due);
        }
    }

    static void isFloat(String call, float got, float due) {
        checked++;
        if (Float.floatToIntBits(got) != Float.floatToIntBits(due)) {
            report(call + " answered " + got + ", due is " + due);
        }
    }

    static void isTrue(String what, boolean holds) {
        checked++;
        if (!holds) {
            report(what);
        }
    }

    /** The class itself has to be thrown, by the program: what the machine or the library throws is a fault. */
    static void fails(String call, Class<?> due, Runnable run) {
        checked++;
        try {
            run.run();
        } catch (RuntimeException e) {
            if (e.getClass() != due || !isThrownByTheProgram(e)) {
                report(call + " threw " + e + ", due is " + due.getName() + " by the program");
            }
            return;
        }
        report(call + " threw nothing, due is " + due.getName());
    }

    static boolean isThrownByTheProgram(RuntimeException e) {
        StackTraceElement[] calls = e.getStackTrace();
        return calls.length > 0 && calls[0].getClassName().startsWith("Kerfworks");
    }

    static void noPlace(String call, Runnable run) {
        fails(call, IndexOutOfBoundsException.class, run);
    }

    static void noArgument(String call, Runnable run) {
        fails(call, IllegalArgumentException.class, run);
    }

    static void noState(String call, Runnable run) {
        fails(call, IllegalStateException.class, run);
    }

    private static void report(String text) {
        wrong++;
        if (wrong <= 30) {
            System.out.println(text);
        }
    }

    static void end() {
        System.out.println(wrong == 0 ? checked + " checks hold" : wrong + " of " + checked + " checks fail");
        if (wrong != 0 || checked == 0) {
            System.exit(1);
        }
    }

    static int at(int x, int y) {
        return 32 * y + x;
    }

    /** Draws a rectangle whose size, as a drawing, is wide by high. */
    static int rectangle(Kerfworks shop, int wide, int high) {
        int drawing = shop.drawing();
        rectangleIn(shop, drawing, wide, high);
        return drawing;
    }

    static void rectangleIn(Kerfworks shop, int drawing, int wide, int high) {
        int right = wide - 1;
        int bottom = high - 1;
        shop.stroke(drawing, at(0, 0), at(right, 0));
        shop.stroke(drawing, at(right, 0), at(right, bottom));
        shop.stroke(drawing, at(right, bottom), at(0, bottom));
        shop.stroke(drawing, at(0, bottom), at(0, 0));
        is("finish of a rectangle", shop.finish(drawing), Kerfworks.NONE);
    }
}
