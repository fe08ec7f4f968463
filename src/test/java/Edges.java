import java.io.IOException;
import java.nio.charset.StandardCharsets;
import java.nio.file.Files;
import java.nio.file.Path;
import java.util.ArrayList;
import java.util.List;
import java.util.Set;
import java.util.TreeSet;

/**
 * What the tests of boundary cases share: each case stands under a promise's number and the document's own words, and
 * each refused call is held against a twin on which it was not done.
 */
final class Edges {
    interface Turn {
        void on(OneSeat x);
    }

    interface Call {
        long on(OneSeat x);
    }

    interface Ask {
        boolean on(OneSeat x);
    }

    /** Numbers that no call takes for a TRAY, a place, a ROLE, a SCENE, a KIND (but NONE), an ENDING, a seed .. */
    static final int[] FAR_OFF = {Integer.MIN_VALUE, Integer.MIN_VALUE + 1, -65536, 65536, 1 << 30, Integer.MAX_VALUE};
    /** Nothing is done ahead of the call. */
    static final Turn AS_IT_IS = x -> { };

    /**
     * Its NIGHTS: first turn side (28), first turn (24), first side (20), first low (18), first odd (17). Turn KILLS a. In full(),
     * odd is BARRED and d is DEAD.
     */
    static final String STAGE = "role a; role b; role c; role d;"
        + " actor x pay 3 breath 100; actor y pay 1 breath 30 not a; actor z pay 1 breath 12;"
        + " scene odd lines 1 with d ends 4; scene low lines 2 with a ends 1; scene side lines 5 with b ends 2;"
        + " scene turn lines 3 with a b then side tear low laugh low kills a;"
        + " scene first lines 4 with b c ends 3 then turn tear side laugh low sleep odd;"
        + " kind one lots 1 tears 4 laughs 4 sleeps 0; kind two lots 3 tears 0 laughs 8 sleeps 8;";

    private final Check check = new Check();
    private final Set<Integer> met = new TreeSet<>();
    private final String document = readDocument();
    private String under = "";

    /** Ahead of a call: another STAGE comes, with an empty tape behind it. */
    static Turn staged(String text) {
        return x -> {
            x.stage(0);
            Check.stage(x, text);
        };
    }

    private static String readDocument() {
        try {
            return flat(Files.readString(Path.of("../shared/DOC.md"), StandardCharsets.UTF_8));
        } catch (IOException e) {
            return null;
        }
    }

    private static String flat(String text) {
        return text.replaceAll("\\s+", " ").strip();
    }

    /** What follows is asked under this promise, by these words of the document. */
    void says(int promise, String words) {
        under = "promise " + promise + " (" + words + "): ";
        met.add(promise);
        if (document != null) {
            check.due(under + "stands in the document", document.contains(flat(words)), true);
        }
    }

    void due(String what, long got, long want) {
        check.due(under + what, got, want);
    }

    void due(String what, boolean got, boolean want) {
        check.due(under + what, got, want);
    }

    /** A call with STATUS 0. */
    void fine(OneSeat x, String what, long got, long want) {
        check.due(x, under + what, got, want, 0);
    }

    void fine(OneSeat x, String what, boolean got) {
        check.due(x, under + what, got, true, 0);
    }

    /** A call that tells a FRACTION. */
    void told(OneSeat x, String what, boolean got, long top, long bottom) {
        check.told(x, under + what, got, top, bottom);
    }

    /** A call with another STATUS, on an object whose state does not matter here. */
    void no(OneSeat x, int status, String what, long got) {
        check.due(x, under + what, got, OneSeat.NONE, status);
    }

    void no(OneSeat x, int status, String what, boolean got) {
        check.due(x, under + what, got, false, status);
    }

    /** A call that is refused on an object with something of everything, and changes nothing but STATUS. */
    void refused(int status, String what, Turn ahead, Call call) {
        OneSeat x = full();
        ahead.on(x);
        OneSeat twin = full();
        ahead.on(twin);
        check.due(x, under + what, call.on(x), OneSeat.NONE, status);
        sameAs(what, x, twin);
    }

    void refused(int status, String what, Call call) {
        refused(status, what, AS_IT_IS, call);
    }

    /** The same for a call that answers false. */
    void denied(int status, String what, Turn ahead, Ask call) {
        refused(status, what, ahead, x -> call.on(x) ? 1 : OneSeat.NONE);
    }

    void denied(int status, String what, Ask call) {
        denied(status, what, AS_IT_IS, call);
    }

    /** A STAGE with a FAULT where the # stands: all stays, but for the tape, which is empty, and what fault() tells. */
    void faultyStage(int fault, String text) {
        OneSeat x = withoutTape();
        check.due(x, under + text, Check.stage(x, text.replace("#", "")), OneSeat.NONE, 10);
        sameAsFaultless(x, fault, text);
    }

    /** The same of a WEEK. */
    void faultyWeek(int fault, String text) {
        OneSeat x = withoutTape();
        check.due(x, under + text, Check.week(x, text.replace("#", "")), OneSeat.NONE, 10);
        sameAsFaultless(x, fault, text);
    }

    private void sameAsFaultless(OneSeat x, int fault, String text) {
        check.due(under + text + ": the FAULT", x.fault(0), fault);
        check.due(under + text + ": its place", x.fault(1), text.indexOf('#'));
        OneSeat twin = withoutTape();
        Check.stage(x, "$");
        Check.stage(twin, "$");
        sameAs(text, x, twin);
    }

    private void sameAs(String what, OneSeat x, OneSeat twin) {
        List<Long> got = look(x);
        List<Long> want = look(twin);
        check.due(under + what + " changed something: answers", got.size(), want.size());
        for (int k = 0; k < Math.min(got.size(), want.size()); k++) {
            check.due(under + what + " changed something: look " + k, got.get(k), want.get(k));
        }
    }

    /** A STAGE, TRAYS, a BOOK, a WEEK, two MARKS, a FRACTION, a FAULT, 40 bytes on the tape; what is told latest, too. */
    static OneSeat full() {
        OneSeat x = withoutTape();
        Check.feed(x, "scene s lines 3; scene t lines 4;       ");
        return x;
    }

    private static OneSeat withoutTape() {
        OneSeat x = Check.with(STAGE);
        x.tray(0, 0, 5);
        x.tray(1, 3, 3);
        x.tray(3, 0, 4);
        for (int k = 0; k < 4; k++) {
            x.write(0, k, k);
            x.write(3, k, 3 - k);
        }
        x.write(1, 2, Long.MIN_VALUE);
        x.mark();
        x.lot(4);
        x.night(0, 3);
        Check.week(x, "play; buy b; play; spare b; play two; stop;");
        x.run(77);
        x.kill(3, true);
        x.mark();
        x.bar(0, true);
        x.lot(12);
        x.steer(2);
        x.cast(1);
        x.odds(1, -1);
        Check.stage(x, "role a; scene s lines 21;");
        x.many(0);
        return x;
    }

    /** All that can be seen of an object; it is used up by that. */
    private static List<Long> look(OneSeat x) {
        List<Long> seen = new ArrayList<>(List.of(x.top(), x.bottom(), (long) x.fault(0), (long) x.fault(1)));
        for (int tray = 0; tray < 4; tray++) {
            for (int place = 0; place < 6; place++) {
                seen.add(x.read(tray, place));
            }
            seen.add((long) x.status());
        }
        for (int k = 0; k < 6; k++) {
            seen.add((long) x.steerAt(k));
            seen.add((long) x.castAt(k));
            seen.add((long) x.ran(k));
        }
        lookAtHouse(x, seen);
        seen.add((long) x.feed(0x20202020, 0x20202020, 0x20202020, 0x20202020, 0x20202020));
        for (int k = 0; k < 4; k++) {
            seen.add((long) x.back());
            lookAtHouse(x, seen);
        }
        seen.add((long) x.stage(60));
        seen.add((long) x.fault(1));
        seen.add((long) x.many(7));
        return seen;
    }

    private static void lookAtHouse(OneSeat x, List<Long> seen) {
        for (int what = 0; what <= 7; what++) {
            seen.add((long) x.many(what));
        }
        for (int k = 0; k < 8; k++) {
            seen.add((long) x.book(k, 0));
            seen.add((long) x.book(k, 2));
        }
        seen.add((long) x.scene(4, 0));
        seen.add((long) x.kind(1, 0));
        seen.add((long) x.actor(2, 1));
        seen.add((long) x.run(5));
        seen.add((long) x.ran(0));
    }

    void finish(int from, int to) {
        finish(from, to, 0);
    }

    /** Ends the test; each of these promises, but for one, has to have been asked about. */
    void finish(int from, int to, int but) {
        for (int promise = from; promise <= to; promise++) {
            check.due("promise " + promise + " was asked about", met.contains(promise) || promise == but, true);
        }
        check.finish();
    }
}
