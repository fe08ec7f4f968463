/** Promises 10 to 12, their FAULTS: which one, and where. A # in a text tells where (and is not in it). */
public final class FaultsTest {
    private static final Check CHECK = new Check();
    private static final String ROLES = "role a;role b;role c;role d;role e;role f;";
    private static final String PLAY = "role r; scene s lines 1; kind k lots 1 tears 0 laughs 0 sleeps 0; actor t pay 1 breath 1;";

    public static void main(String[] args) {
        signs();
        places();
        names();
        numbers();
        lists();
        tooMany();
        weekPlaces();
        weekNames();
        weekTooMany();
        whatFaultTells();
        CHECK.finish();
    }

    private static void stage(String text, int kind) {
        OneSeat x = Check.with(PLAY);
        String bare = text.replace("#", "");
        CHECK.due(x, text, Check.stage(x, bare), -1, 10);
        CHECK.due(text + ": the FAULT", x.fault(0), kind);
        CHECK.due(text + ": its place", x.fault(1), text.indexOf('#'));
        CHECK.due(text + ": the old one stays", x.many(1), 1);
        CHECK.due(text + ": the tape is empty", x.stage(1), -1);
        CHECK.due(text + ": 5 then", x.status(), 5);
        CHECK.due(text + ": 5 leaves the FAULT", x.fault(0), kind);
    }

    private static void right(String text, int scenes) {
        OneSeat x = new OneSeat();
        CHECK.due(x, text, Check.stage(x, text), scenes, 0);
        CHECK.due(text + ": no FAULT", x.fault(0), 0);
        CHECK.due(text + ": no place", x.fault(1), -1);
    }

    private static void week(String text, int kind) {
        OneSeat x = Check.with(PLAY);
        Check.week(x, "stop;");
        String bare = text.replace("#", "");
        CHECK.due(x, text, Check.week(x, bare), -1, 10);
        CHECK.due(text + ": the FAULT", x.fault(0), kind);
        CHECK.due(text + ": its place", x.fault(1), text.indexOf('#'));
        CHECK.due(x, text + ": the old one stays", x.run(0), 0, 0);
        CHECK.due(x, text + ": its one STEP", x.ran(0), 1, 0);
        CHECK.due(x, text + ": the tape is empty", x.week(1), -1, 5);
    }

    private static void rightWeek(String text, int steps) {
        OneSeat x = Check.with(PLAY);
        CHECK.due(x, text, Check.week(x, text), steps, 0);
        CHECK.due(text + ": no FAULT", x.fault(0), 0);
        CHECK.due(text + ": no place", x.fault(1), -1);
    }

    private static void signs() {
        stage("#Role a;", 1);
        stage("role a#\t;", 1);
        stage("role a;#,", 1);
        stage("role #\u00e9;", 1);
        stage("scene s lines #12345;", 1);
        stage("scene s #00001", 1);
        stage("#12345", 1);
        stage("role a; #?", 1);
        stage("role a#", 2);
        right("", 0);
        right(" \n \n", 0);
        right("\nrole\na\n;\n", 0);
        right("rolea;".replace("rolea", "role a") + "scene s lines0007with a ends8;", 1);
        right("scene s lines 0020;", 1);
    }

    private static void places() {
        stage("#a", 2);
        stage("#;", 2);
        stage("#1", 2);
        stage("#<", 2);
        stage("#abcdefghi", 2);
        stage("#lines 1;", 2);
        stage("role #;", 2);
        stage("role #7;", 2);
        stage("role #abcdefghi;", 2);
        stage("role abcdefgh #abc;", 2);
        stage("role #loop;", 2);
        stage("role #role;", 2);
        stage("role a#", 2);
        stage("role a   #", 2);
        stage("role a #role b;", 2);
        stage("actor a #breath 1;", 2);
        stage("actor a pay #x", 2);
        stage("actor a pay 1 breath 2 not #;", 2);
        stage("scene s #with", 2);
        stage("scene s lines 1 #lines", 2);
        stage("scene s lines 1 ends 1 #ends 1;", 2);
        stage("scene s lines 1; scene t lines 1 tear s #then s;", 2);
        stage("scene s lines 1; scene t lines 1 then s #then s;", 2);
        stage("role a; scene s lines 1 ends 1 #with a;", 2);
        stage("role a; scene s lines 1 with #then", 2);
        stage("role a; scene s lines 1 with a #abcdefghi", 2);
        stage("role a; scene s lines 1 with a #7", 2);
        stage("role a; scene s lines 1 kills #;", 2);
        stage("kind k lots 1 tears 1 laughs 1 #;", 2);
        stage("kind k lots 1 #laughs 1;", 2);
        stage("kind k lots 1 tears 1 laughs 1 sleeps 1 #sleeps 1;", 2);
        stage("kind k lots 1 tears 1 laughs 1 sleeps 1#", 2);
        stage("actor a pay 1 breath 1 #breath", 2);
        stage("scene s lines 1 kills#", 2);
        for (String word : ("role actor pay breath not scene lines with ends then tear laugh sleep kills kind lots tears"
            + " laughs sleeps play bar open buy spare when seen dead nights ended loop end stop").split(" ")) {
            stage("role #" + word + ";", 2);
            right("role " + word + "x; scene x" + word + " lines 1;", 1);
        }
    }

    private static void names() {
        stage("role a; role #a;", 3);
        stage("role a; actor #a pay 1 breath 1;", 3);
        stage("role a; scene #a lines 1;", 3);
        stage("actor a pay 1 breath 1; role #a;", 3);
        stage("scene a lines 1; kind #a lots 1", 3);
        stage("kind a lots 1 tears 0 laughs 0 sleeps 0; scene #a", 3);
        stage("scene s lines 1 with #a; role a;", 3);
        stage("scene s lines 1; scene t lines 1 with #s;", 3);
        stage("scene s lines 1 then #s;", 3);
        stage("scene s lines 1 tear #t; scene t lines 1;", 3);
        stage("role a; scene s lines 1 sleep #a;", 3);
        stage("role a; scene s lines 1; scene t lines 1 kills #s;", 3);
        stage("actor a pay 1 breath 1 not #b;", 3);
        stage("role a; actor x pay 1 breath 1 not a #x;", 3);
        right("role abcdefgh; scene abcdefg lines 1 with abcdefgh;", 1);
    }

    private static void numbers() {
        stage("actor a pay #100 breath 1;", 4);
        stage("actor a pay 99 breath #1000;", 4);
        stage("scene s lines #0;", 4);
        stage("scene s lines #21;", 4);
        stage("scene s lines 1 ends #9;", 4);
        stage("kind k lots #0", 4);
        stage("kind k lots #31", 4);
        stage("kind k lots 30 tears #17", 4);
        stage("kind k lots 30 tears 16 laughs #1", 4);
        stage("kind k lots 30 tears 8 laughs 8 sleeps #1", 4);
        stage("kind k lots 30 tears 1 laughs #16 sleeps 16", 4);
        right("actor a pay 99 breath 999; actor b pay 0 breath 0; scene s lines 20 ends 0; scene t lines 1 ends 8;", 2);
        right("kind k lots 30 tears 8 laughs 4 sleeps 4; kind l lots 1 tears 16 laughs 0 sleeps 0;", 0);
        right("kind k lots 1 tears 0 laughs 16 sleeps 0; kind l lots 1 tears 0 laughs 0 sleeps 16;", 0);
    }

    private static void lists() {
        stage("role a; role b; scene s lines 1 with a b #a;", 5);
        stage("role a; scene s lines 1 with a #a;", 5);
        stage("role a; role b; actor x pay 1 breath 1 not b #b;", 5);
        stage(ROLES + "scene s lines 1 with a b c d e f #f;", 5);
        right(ROLES + "scene s lines 1 with f e d c b a; actor x pay 1 breath 1 not a b c d e f;", 1);
    }

    private static void tooMany() {
        stage(ROLES + "#role a;", 6);
        stage(ROLES + "#role", 6);
        right(ROLES, 0);
        StringBuilder actors = new StringBuilder();
        StringBuilder scenes = new StringBuilder();
        StringBuilder kinds = new StringBuilder();
        for (char c = 'a'; c < 'g'; c++) {
            actors.append("actor ").append(c).append(" pay 1 breath 1;");
        }
        for (char c = 'a'; c < 'm'; c++) {
            scenes.append("scene ").append(c).append(" lines 1;");
        }
        for (char c = 'a'; c < 'e'; c++) {
            kinds.append("kind ").append(c).append(" lots 1 tears 0 laughs 0 sleeps 0;");
        }
        right(actors.toString(), 0);
        right(scenes.toString(), 12);
        right(kinds.toString(), 0);
        stage(actors + "#actor g", 6);
        stage(scenes + "#scene 1", 6);
        stage(kinds + "#kind a", 6);
    }

    private static void weekPlaces() {
        week("#Play;", 1);
        week("play #12345;", 1);
        week("play#", 2);
        week("play k#", 2);
        week("#k;", 2);
        week("#role a;", 2);
        week("play #loop;", 2);
        week("play #abcdefghi;", 2);
        week("play #1;", 2);
        week("bar #;", 2);
        week("stop #s;", 2);
        week("#end;", 2);
        week("loop 2; end #end;", 2);
        week("loop 2; end; #end;", 2);
        week("loop 2; play;#", 2);
        week("loop 2; when nights < 1; end; #", 2);
        week("when #play;", 2);
        week("when #;", 2);
        week("when nights #1;", 2);
        week("when nights <#= 1;", 2);
        week("when nights #; ", 2);
        week("when ended #< 1;", 2);
        week("when seen #dead;", 2);
        week("loop #k;", 2);
        rightWeek("", 0);
        rightWeek(" \n", 0);
        rightWeek("play;play k;bar s;open s;buy r;spare r;stop;", 7);
        rightWeek("when seen s;end;when dead r;end;when ended 9;end;when nights<0;end;when nights>99;end;when nights=1;end;", 6);
        rightWeek("loop 1;loop 99;loop 2;end;end;end;", 3);
    }

    private static void weekNames() {
        week("play #s;", 3);
        week("bar #k;", 3);
        week("open #r;", 3);
        week("buy #s;", 3);
        week("spare #t;", 3);
        week("when seen #r;", 3);
        week("when dead #s;", 3);
        week("buy #x;", 3);
        week("when ended #10;", 4);
        week("when nights < #100;", 4);
        week("loop #0;", 4);
        week("loop #100;", 4);
    }

    private static void weekTooMany() {
        String ten = "stop;stop;stop;stop;stop;stop;stop;stop;stop;stop;";
        rightWeek(ten + ten + ten, 30);
        week(ten + ten + ten + "#stop;", 6);
        week(ten + ten + ten + "#when", 6);
        rightWeek(ten + ten + "loop 1;end;loop 1;end;loop 1;end;loop 1;end;loop 1;end;loop 1;end;loop 1;loop 1;loop 1;stop;end;end;end;", 30);
        week(ten + ten + "stop;stop;stop;stop;stop;stop;stop;loop 1;loop 1;loop 1;#loop 1;", 6);
        week("loop 1;loop 1;when nights < 1;#loop 1;", 7);
        week("loop 1;loop 1;when nights < 1;#when", 7);
        week("loop 1;loop 1;loop 1;end; loop 1;#when", 7);
        week("loop 1;loop 1;loop 1;end;end;end;#end;", 2);
    }

    private static void whatFaultTells() {
        OneSeat x = new OneSeat();
        CHECK.due("ahead of any", x.fault(0), -1);
        Check.stage(x, "role a; role a;");
        CHECK.due("of the stage", x.fault(0), 3);
        CHECK.due("its place", x.fault(1), 13);
        CHECK.due("fault(2)", x.fault(2), -1);
        CHECK.due("fault(-1)", x.fault(-1), -1);
        CHECK.due("has no STATUS", x.status(), 10);
        x.week(901);
        CHECK.due("5 changes nothing", x.fault(1), 13);
        Check.week(x, "end;");
        CHECK.due("of the week", x.fault(0), 2);
        CHECK.due("its place", x.fault(1), 0);
        Check.week(x, "stop;");
        CHECK.due("none", x.fault(0), 0);
        CHECK.due("no place", x.fault(1), -1);
    }
}
