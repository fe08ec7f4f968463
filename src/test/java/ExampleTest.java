import java.io.IOException;
import java.nio.charset.StandardCharsets;
import java.nio.file.Files;
import java.nio.file.Path;

/** The example of README.md: its lines have to stand here, so that what it tells is what the class answers. */
public final class ExampleTest {
    private static final Check CHECK = new Check();

    public static void main(String[] args) throws IOException {
        evening();
        everyLineStandsHere();
        CHECK.finish();
    }

    private static void shows(long got, long want) {
        CHECK.due("the example", got, want);
    }

    private static void shows(boolean got, boolean want) {
        CHECK.due("the example", got, want);
    }

    private static void evening() {
        OneSeat x = new OneSeat();
        int n = feed(x, "role host; role maid; actor joe pay 2 breath 50; actor sue pay 1 breath 30 not host;"
            + " scene sad lines 2 with maid ends 1; scene gay lines 3 with host ends 2;"
            + " scene first lines 4 with host maid then gay tear sad;"
            + " kind soft lots 3 tears 8 laughs 0 sleeps 0; kind hard lots 1 tears 0 laughs 4 sleeps 0;");
        shows(x.stage(n), 3);              // three SCENES; with NONE and status() 10, fault(0) and fault(1) tell why
        x.tray(0, 0, 1);                   // TRAY 0: one number of 8 bits
        x.write(0, 0, 1);                  // a TEAR
        shows(x.night(0, 1), 5);           // a NIGHT by hand: first (SCENE 2: 4), then sad (SCENE 0: 1)
        shows(x.lot(8), 0);                // a NIGHT by LOT: somebody soft sat there
        shows(x.book(0, 1), 1);            // the latest NIGHT's ENDING
        shows(x.odds(1, 0), true);         // ENDING 1 for somebody soft: 1 by 2
        shows(x.top() == 1 && x.bottom() == 2, true);
        shows(x.odds(1, OneSeat.NONE), true); // by LOT: 3 by 8
        shows(x.top() == 3 && x.bottom() == 8, true);
        shows(x.steer(1), 2);              // two SCENES lead to ENDING 1
        shows(x.steerAt(0), 1);            // by a TEAR behind the first one
        shows(x.cast(1), 20);              // joe plays host (7 breaths by 2), sue the maid (6 by 1)
        int w = feed(x, "loop 3; play; end; when ended 1; buy maid; play; end;");
        shows(x.week(w), 5);               // five STEPS
        shows(x.run(8), 3);                // how many NIGHTS were played
        shows(x.ran(4), 1);                // and how many could not be
        shows(x.odds(1, 4), false);        // there is no KIND 4:
        shows(x.status(), 2);
    }

    /** Twenty bytes a call, the highest byte of each int first, with blanks behind the text. */
    private static int feed(OneSeat x, String text) {
        int[] five = new int[5];
        for (int at = 0; at < text.length(); at += 20) {
            for (int k = 0; k < 20; k++) {
                five[k / 4] = five[k / 4] << 8 | (at + k < text.length() ? text.charAt(at + k) : ' ');
            }
            x.feed(five[0], five[1], five[2], five[3], five[4]);
        }
        return text.length();
    }

    private static void everyLineStandsHere() throws IOException {
        String here = Files.readString(Path.of("src/test/java/ExampleTest.java"), StandardCharsets.UTF_8);
        String readme = Files.readString(Path.of("README.md"), StandardCharsets.UTF_8);
        int from = readme.indexOf("```java\n");
        int to = readme.indexOf("```", from + 3);
        CHECK.due("README.md has an example", from >= 0 && to > from, true);
        for (String line : readme.substring(from + 8, to).split("\n")) {
            CHECK.due("README.md: " + line, here.contains(line.strip()), true);
        }
    }
}
