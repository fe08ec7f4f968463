/** Promises 9 to 18: the tape, what a STAGE tells, what is BARRED and DEAD. */
public final class TextsTest {
    private static final Check CHECK = new Check();
    private static final String MURDER = "role mur; role vic; role maid; actor joe pay 2 breath 50;"
        + " actor sue pay 1 breath 30 not mur vic; scene fin lines 2 with maid ends 1;"
        + " scene duel lines 3 with mur vic ends 2 then fin kills vic;"
        + " scene ball lines 4 with vic maid then duel tear fin laugh duel; scene dawn lines 1 ends 0 then ball sleep fin kills mur;"
        + " kind cry lots 3 tears 8 laughs 1 sleeps 4; kind nod lots 1 tears 0 laughs 0 sleeps 16;";

    public static void main(String[] args) {
        promise9();
        promise10();
        promise11();
        promise13();
        promise14();
        promises15and16();
        promises17and18();
        CHECK.finish();
    }

    private static void promise9() {
        OneSeat x = new OneSeat();
        x.many(9);
        for (int k = 1; k <= 45; k++) {
            CHECK.due("feed " + k, x.feed(0x20202020, 0x20202020, 0x20202020, 0x20202020, 0x20202020), 20 * k);
        }
        CHECK.due("feed 46", x.feed(0, 0, 0, 0, 0), -1);
        CHECK.due("no STATUS", x.status(), 5);
        CHECK.due(x, "stage(901)", x.stage(901), -1, 5);
        CHECK.due(x, "stage(900)", x.stage(900), 0, 0);
        CHECK.due("feed again", x.feed(0, 0, 0, 0, 0), 20);
        OneSeat y = new OneSeat();
        y.feed('r' << 24 | 'o' << 16 | 'l' << 8 | 'e', ' ' << 24 | 'a' << 16 | ';' << 8 | 's', 'c' << 24 | 'e' << 16 | 'n' << 8 | 'e',
            ' ' << 24 | 'b' << 16 | ' ' << 8 | 'l', 'i' << 24 | 'n' << 16 | 'e' << 8 | 's');
        y.feed(' ' << 24 | '7' << 16 | ';' << 8, -1, -1, -1, -1);
        CHECK.due(y, "the highest byte first", y.stage(23), 1, 0);
        CHECK.due(y, "its LINES", y.scene(0, 0), 7, 0);
    }

    private static void promise10() {
        OneSeat x = new OneSeat();
        Check.feed(x, "scene a lines 1; scene b lines 1;");
        CHECK.due(x, "stage(-1)", x.stage(-1), -1, 5);
        CHECK.due(x, "stage(41)", x.stage(41), -1, 5);
        CHECK.due(x, "the first n bytes", x.stage(16), 1, 0);
        CHECK.due(x, "the tape is empty", x.stage(1), -1, 5);
        Check.stage(x, MURDER);
        Check.week(x, "play;");
        x.bar(2, true);
        x.kill(1, true);
        x.lot(3);
        CHECK.due(x, "stage(0)", x.stage(0), 0, 0);
        for (int what = 0; what <= 7; what++) {
            CHECK.due(x, "all is gone " + what, x.many(what), 0, 0);
        }
        CHECK.due(x, "no WEEK", x.run(0), -1, 8);
        Check.stage(x, MURDER);
        x.bar(2, true);
        x.kill(1, true);
        Check.stage(x, MURDER + "?");
        CHECK.due(x, "behind 10 BARRED stays", x.many(5), 4, 0);
        CHECK.due(x, "behind 10 DEAD stays", x.many(6), 2, 0);
    }

    private static void promise11() {
        OneSeat x = Check.with(MURDER);
        Check.feed(x, "play; stop;");
        CHECK.due(x, "week(-1)", x.week(-1), -1, 5);
        CHECK.due(x, "week(21)", x.week(21), -1, 5);
        CHECK.due(x, "the first n bytes", x.week(5), 1, 0);
        CHECK.due(x, "the tape is empty", x.week(1), -1, 5);
        for (int k = 0; k < 16; k++) {
            Check.feed(x, "                    ");
        }
        CHECK.due(x, "week(301)", x.week(301), -1, 5);
        CHECK.due(x, "week(300)", x.week(300), 0, 0);
        CHECK.due(x, "a WEEK without a STEP", x.run(1), 0, 0);
    }

    private static void promise13() {
        OneSeat x = Check.with(MURDER);
        int[] due = {3, 2, 4, 2, 0, 0, 0, 10};
        for (int what = 0; what <= 7; what++) {
            CHECK.due(x, "many " + what, x.many(what), due[what], 0);
        }
        CHECK.due(x, "many(8)", x.many(8), -1, 5);
        CHECK.due(x, "many(-1)", x.many(-1), -1, 5);
        x.lot(1);
        CHECK.due(x, "NIGHTS", x.many(4), 1, 0);
    }

    private static void scene(OneSeat x, int scene, int... due) {
        for (int what = 0; what <= 8; what++) {
            CHECK.due(x, "scene " + scene + " " + what, x.scene(scene, what), due[what], due[what] == -1 ? 8 : 0);
        }
    }

    private static void promise14() {
        OneSeat x = Check.with(MURDER);
        scene(x, 0, 2, 4, 1, -1, -1, -1, -1, -1, 2);
        scene(x, 1, 3, 3, 2, 0, -1, -1, -1, 1, 6);
        scene(x, 2, 4, 6, -1, 1, 0, 1, -1, -1, 8);
        scene(x, 3, 1, 0, 0, 2, -1, -1, 0, 0, 0);
        CHECK.due(x, "scene(4, 9)", x.scene(4, 9), -1, 2);
        CHECK.due(x, "scene(-1, 0)", x.scene(-1, 0), -1, 2);
        CHECK.due(x, "scene(0, 9)", x.scene(0, 9), -1, 5);
        CHECK.due(x, "scene(0, -1)", x.scene(0, -1), -1, 5);
    }

    private static void promises15and16() {
        OneSeat x = Check.with(MURDER);
        int[][] kinds = {{3, 8, 1, 4}, {1, 0, 0, 16}};
        int[][] actors = {{2, 50, 0}, {1, 30, 3}};
        for (int k = 0; k < 2; k++) {
            for (int what = 0; what < 4; what++) {
                CHECK.due(x, "kind " + k + " " + what, x.kind(k, what), kinds[k][what], 0);
            }
            for (int what = 0; what < 3; what++) {
                CHECK.due(x, "actor " + k + " " + what, x.actor(k, what), actors[k][what], 0);
            }
        }
        CHECK.due(x, "kind(2, 9)", x.kind(2, 9), -1, 2);
        CHECK.due(x, "kind(-1, 0)", x.kind(-1, 0), -1, 2);
        CHECK.due(x, "kind(0, 4)", x.kind(0, 4), -1, 5);
        CHECK.due(x, "kind(0, -1)", x.kind(0, -1), -1, 5);
        CHECK.due(x, "actor(2, 9)", x.actor(2, 9), -1, 2);
        CHECK.due(x, "actor(-1, 0)", x.actor(-1, 0), -1, 2);
        CHECK.due(x, "actor(0, 3)", x.actor(0, 3), -1, 5);
        CHECK.due(x, "actor(0, -1)", x.actor(0, -1), -1, 5);
    }

    private static void promises17and18() {
        OneSeat x = Check.with(MURDER);
        CHECK.due(x, "bar(4)", x.bar(4, true), false, 2);
        CHECK.due(x, "bar(-1)", x.bar(-1, false), false, 2);
        CHECK.due(x, "kill(3)", x.kill(3, true), false, 2);
        CHECK.due(x, "kill(-1)", x.kill(-1, false), false, 2);
        CHECK.due(x, "bar", x.bar(3, true), true, 0);
        CHECK.due(x, "bar again", x.bar(3, true), true, 0);
        CHECK.due(x, "bar another", x.bar(0, true), true, 0);
        CHECK.due(x, "BARRED", x.many(5), 9, 0);
        CHECK.due(x, "bar no more", x.bar(3, false), true, 0);
        CHECK.due(x, "bar no more, again", x.bar(3, false), true, 0);
        CHECK.due(x, "BARRED", x.many(5), 1, 0);
        CHECK.due(x, "kill", x.kill(2, true), true, 0);
        CHECK.due(x, "kill again", x.kill(2, true), true, 0);
        CHECK.due(x, "kill another", x.kill(1, true), true, 0);
        CHECK.due(x, "DEAD", x.many(6), 6, 0);
        CHECK.due(x, "kill no more", x.kill(1, false), true, 0);
        CHECK.due(x, "DEAD", x.many(6), 4, 0);
    }
}
