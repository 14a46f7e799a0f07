import java.io.IOException;
import java.nio.file.Files;
import java.nio.file.Path;

/** The example of README.md: each of its calls stands there, and answers what it says there. */
public final class ReadmeTest {
    private static int at;
    private static String readme;

    private ReadmeTest() {
    }

    public static void main(String[] args) throws IOException {
        readme = Files.readString(Path.of("README.md"));
        example();
        Check.isTrue("the example has no further line", readme.startsWith("```", readme.indexOf('\n', at) + 1));
        Check.end();
    }

    /** Looks for the line behind the one before, so that none is left out between. */
    private static void line(String code, String comment) {
        int next = readme.indexOf('\n', at) + 1;
        int end = readme.indexOf('\n', next);
        String found = at == 0 ? "" : readme.substring(next, end).replaceAll(" +", " ");
        String due = comment.isEmpty() ? code : code + " // " + comment;
        Check.isTrue("README.md has the line " + due + ", and not " + found, found.equals(due));
        at = next;
    }

    private static void example() {
        at = readme.indexOf("```java");
        line("Kerfworks shop = new Kerfworks();", "");
        Kerfworks shop = new Kerfworks();
        line("int drawing = shop.drawing();", "");
        int drawing = shop.drawing();
        line("shop.stroke(drawing, 0, 3);", "a point is 32 times y and x, together");
        Check.is("the first stroke", shop.stroke(drawing, 0, 3), 1);
        line("shop.stroke(drawing, 3, 99);", "");
        Check.is("the second stroke", shop.stroke(drawing, 3, 99), 2);
        line("shop.stroke(drawing, 99, 0);", "");
        Check.is("the third stroke", shop.stroke(drawing, 99, 0), 3);
        line("shop.finish(drawing);", "NONE: the drawing is FINE");
        Check.is("finish", shop.finish(drawing), Kerfworks.NONE);
        Check.is("it is FINE", shop.ofDrawing(drawing, 0), Kerfworks.FINE);
        line("int job = shop.job(drawing, 2);", "two copies; the job WAITS, as there is no sheet");
        int job = shop.job(drawing, 2);
        Check.is("it WAITS", shop.ofJob(job, 0), Kerfworks.WAITS);
        line("shop.sheet(10, 10);", "now it is NESTED, each copy on 5 by 5");
        Check.is("sheet", shop.sheet(10, 10), 0);
        Check.is("it is NESTED", shop.ofJob(job, 0), Kerfworks.NESTED);
        line("shop.where(job, 1, 1);", "5: the second copy is 5 from the left");
        Check.is("where", shop.where(job, 1, 1), 5);
        line("shop.free(0);", "1005: the FREE piece on sheet 0 is 10 by 5");
        Check.is("free", shop.free(0), 1005);
        line("shop.cut(job);", "7 minutes: 2 for each copy, 3 as both touch");
        Check.is("cut", shop.cut(job), 7);
        line("shop.redraw(drawing);", "0: what is CUT is not taken off");
        Check.is("redraw", shop.redraw(drawing), 0);
    }
}
