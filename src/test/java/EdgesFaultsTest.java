/** Boundary cases of promise 12: FAULTS and their places. A # in a text tells the place (and is not in it). */
public final class EdgesFaultsTest {
    private static final Edges EDGES = new Edges();
    private static final String WORDS = " role actor pay breath not scene lines with ends then tear laugh sleep kills kind lots tears laughs sleeps"
        + " play bar open buy spare when seen dead nights ended loop end stop ";
    /** A STAGE with all that can stand in it; blanks between all TOKENS. */
    private static final String WHOLE_STAGE = "role a ; role b ; actor x pay 99 breath 999 not a b ; actor y pay 0 breath 0 ;"
        + " scene s lines 20 with a b ends 8 ; scene t lines 1 ends 0 then s tear s laugh s sleep s kills a ; scene u lines 2 ;"
        + " kind k lots 30 tears 4 laughs 5 sleeps 7 ;";
    /** A WEEK with all that can stand in it, for the STAGE of Edges. */
    private static final String WHOLE_WEEK = "play ; play one ; bar odd ; open first ; buy a ; spare d ; when seen low ; when dead b ; when ended 9 ;"
        + " end ; end ; when nights < 99 ; end ; when nights > 0 ; end ; when nights = 5 ; loop 99 ; end ; end ; end ; stop ;";
    private static final String SIX_ROLES = "role a;role b;role c;role d;role e;role f;";
    private static final String TEN_STOPS = "stop;stop;stop;stop;stop;stop;stop;stop;stop;stop;";

    public static void main(String[] args) {
        whatItTells();
        whatOthersLeave();
        signsOfNoToken();
        longNumbers();
        everyTokenOfAStage();
        everyTokenOfAWeek();
        ends();
        names();
        unlikeNames();
        newNames();
        namesToldAhead();
        namesOfAWeek();
        numbersOfActorsAndScenes();
        numbersOfKinds();
        numbersOfAWeek();
        rolesAgain();
        oneTooMany();
        tooDeep();
        theLeastOfOneToken();
        theFirstAlongTheText();
        EDGES.finish(12, 12);
    }

    private static void right(String text, int scenes) {
        OneSeat x = Edges.full();
        x.stage(0);
        EDGES.fine(x, text, Check.stage(x, text), scenes);
        EDGES.due(text + ": no FAULT", x.fault(0), 0);
        EDGES.due(text + ": no place", x.fault(1), -1);
    }

    private static void rightWeek(String text, int steps) {
        OneSeat x = Check.with(Edges.STAGE);
        EDGES.fine(x, text, Check.week(x, text), steps);
        EDGES.due(text + ": no FAULT", x.fault(0), 0);
        EDGES.due(text + ": no place", x.fault(1), -1);
    }

    private static void whatItTells() {
        EDGES.says(12, "NONE for others, and ahead of any.");
        OneSeat x = new OneSeat();
        EDGES.due("ahead of any", x.fault(0), -1);
        EDGES.due("ahead of any, its place", x.fault(1), -1);
        x.stage(1);
        EDGES.due("ahead of any but one with 5", x.fault(0), -1);
        Check.stage(x, "$");
        EDGES.due("1", x.fault(0), 1);
        EDGES.due("at 0", x.fault(1), 0);
        EDGES.due("what 2", x.fault(2), -1);
        EDGES.due("what -1", x.fault(-1), -1);
        for (int far : Edges.FAR_OFF) {
            EDGES.due("what " + far, x.fault(far), -1);
        }
        EDGES.says(12, "what 0: the FAULT (0 without one), 1: its place (NONE without).");
        x.stage(0);
        EDGES.due("0 without one", x.fault(0), 0);
        EDGES.due("NONE without", x.fault(1), -1);
        Check.stage(x, "  $");
        EDGES.due("its place", x.fault(1), 2);
        x.week(0);
        EDGES.due("0 behind a WEEK without", x.fault(0), 0);
        EDGES.due("NONE behind a WEEK without", x.fault(1), -1);
    }

    private static void whatOthersLeave() {
        EDGES.says(12, "Of the latest of these with STATUS 0 or 10");
        OneSeat x = new OneSeat();
        Check.stage(x, "role a; role a;");
        Check.week(x, "play; end;");
        EDGES.due("the WEEK is later", x.fault(0), 2);
        EDGES.due("its place", x.fault(1), 6);
        Check.stage(x, "scene s lines 0;");
        EDGES.due("the STAGE is later", x.fault(0), 4);
        EDGES.due("its place", x.fault(1), 14);
        x.stage(1);
        x.week(-1);
        x.stage(901);
        x.week(301);
        EDGES.due("behind some with 5", x.fault(0), 4);
        EDGES.due("its place behind some with 5", x.fault(1), 14);
        x.mark();
        x.back();
        EDGES.due("behind a MARK", x.fault(1), 14);
    }

    private static void signsOfNoToken() {
        EDGES.says(12, "1 no TOKEN begins so");
        String tokens = " \n;<>=0123456789abcdefghijklmnopqrstuvwxyz";
        for (char c = 0; c < 256; c++) {
            if (tokens.indexOf(c) < 0 && c != '#') {
                EDGES.faultyStage(1, "role a#" + c);
                EDGES.faultyWeek(1, "#" + c + "play;");
            }
        }
        OneSeat x = new OneSeat();
        EDGES.no(x, 10, "the sign for a number", x.stage(x.feed('#' << 24, 0, 0, 0, 0)));
        EDGES.due("1", x.fault(0), 1);
        EDGES.says(12, "between them blanks (10, 32)");
        right("\n\nrole  \n a ;\n\n scene\ns\nlines\n7\n;\n ", 1);
        rightWeek("\nplay\n;\n\n stop ; \n", 2);
        right("role a;scene s lines7with a ends0;scene t lines7then s;", 2);
    }

    private static void longNumbers() {
        EDGES.says(12, "(a NUMBER of 5 digits and more: at its first)");
        EDGES.faultyStage(1, "scene s lines #00001;");
        EDGES.faultyStage(1, "scene s lines #123456789012345678901234567890;");
        EDGES.faultyStage(1, "role #12345;");
        EDGES.faultyStage(1, "#12345");
        EDGES.faultyWeek(1, "loop #00001; end;");
        EDGES.faultyWeek(1, "play #10000;");
        EDGES.says(12, "NUMBERS (1 to 4 digits)");
        right("scene s lines 0001; scene t lines 020; scene u lines 9;", 3);
        EDGES.faultyStage(4, "scene s lines #9999;");
        EDGES.faultyStage(4, "scene s lines #0000;");
        OneSeat x = new OneSeat();
        Check.feed(x, "scene s lines 00000;");
        EDGES.no(x, 10, "four of five digits", x.stage(18));
        EDGES.due("are a NUMBER that can't be", x.fault(0), 4);
        EDGES.due("at its first", x.fault(1), 14);
    }

    private static boolean isName(String token) {
        return Character.isLetter(token.charAt(0)) && !WORDS.contains(" " + token + " ");
    }

    private static boolean isNumber(String token) {
        return Character.isDigit(token.charAt(0));
    }

    private static void everyTokenOfAStage() {
        EDGES.says(12, "2 it can't stand there (the end: the text's length; a WORD of 9 letters and more where a NAME must stand).");
        right(WHOLE_STAGE, 3);
        String[] tokens = WHOLE_STAGE.split(" ");
        StringBuilder ahead = new StringBuilder();
        for (int k = 0; k < tokens.length; k++) {
            String token = tokens[k];
            boolean between = k == 0 || tokens[k - 1].equals(";");
            if (!between) {
                EDGES.faultyStage(2, ahead + "#");
                EDGES.faultyStage(2, ahead.substring(0, ahead.length() - 1) + "#");
                EDGES.faultyStage(2, ahead + "#role");
                EDGES.faultyStage(2, ahead + "#kind");
            }
            EDGES.faultyStage(2, ahead + "#<");
            EDGES.faultyStage(2, ahead + "#abcdefghi;");
            EDGES.faultyStage(2, ahead + "#play;");
            EDGES.faultyStage(isNumber(token) ? 4 : 2, ahead + "#9999;");
            EDGES.faultyStage(1, ahead + "#99999;");
            EDGES.faultyStage(1, ahead + "#?");
            if (isNumber(token)) {
                EDGES.faultyStage(2, ahead + "#;");
                EDGES.faultyStage(2, ahead + "#a;");
            }
            ahead.append(token).append(' ');
        }
    }

    private static void everyTokenOfAWeek() {
        EDGES.says(12, "FAULTS: 1, 2 as above (an end without a beginning; the text's end ahead of an end: 2).");
        rightWeek(WHOLE_WEEK, 14);
        String[] tokens = WHOLE_WEEK.split(" ");
        StringBuilder ahead = new StringBuilder();
        int open = 0;
        for (int k = 0; k < tokens.length; k++) {
            String token = tokens[k];
            boolean between = k == 0 || tokens[k - 1].equals(";");
            if (!between || open > 0) {
                EDGES.faultyWeek(2, ahead + "#");
                EDGES.faultyWeek(2, ahead.substring(0, ahead.length() - 1) + "#");
            }
            if (!between) {
                EDGES.faultyWeek(2, ahead + "#end;");
                EDGES.faultyWeek(2, ahead + "#play;");
            }
            EDGES.faultyWeek(2, ahead + "#role;");
            EDGES.faultyWeek(2, ahead + "#abcdefghi;");
            EDGES.faultyWeek(isNumber(token) ? 4 : 2, ahead + "#9999;");
            EDGES.faultyWeek(1, ahead + "#99999;");
            EDGES.faultyWeek(1, ahead + "#?");
            if (!isName(token) && !tokens[Math.max(0, k - 1)].equals("play")) {
                EDGES.faultyWeek(2, ahead + "#low;");
            }
            open += token.equals("when") || token.equals("loop") ? 1 : token.equals("end") ? -1 : 0;
            ahead.append(token).append(' ');
        }
    }

    private static void ends() {
        EDGES.says(12, "an end without a beginning");
        EDGES.faultyWeek(2, "#end;");
        EDGES.faultyWeek(2, "play; #end;");
        EDGES.faultyWeek(2, "loop 1; end; #end;");
        EDGES.faultyWeek(2, "loop 1; loop 1; loop 1; end; end; end; #end;");
        EDGES.says(12, "the text's end ahead of an end: 2");
        EDGES.faultyWeek(2, "loop 1;#");
        EDGES.faultyWeek(2, "loop 1; play; \n#");
        EDGES.faultyWeek(2, "when seen low; loop 1; end;#");
        EDGES.faultyWeek(2, "loop 1; end#");
    }

    private static void names() {
        EDGES.says(12, "NAME: a WORD of 1 to 8 letters that is none of role, actor, pay, breath, not, scene, lines, with, ends, then, tear,"
            + " laugh, sleep, kills, kind, lots, tears, laughs, sleeps, play, bar, open, buy, spare, when, seen, dead, nights, ended, loop, end, stop.");
        for (String word : WORDS.strip().split(" ")) {
            EDGES.faultyStage(2, "role #" + word + ";");
            EDGES.faultyStage(2, "role a; scene s lines 1 with #" + word + ";");
            EDGES.faultyWeek(2, "bar #" + word + ";");
            right("role " + word + "x; scene " + word.substring(1) + "z lines 1;", 1);
        }
        right("role z; role zz; role zzzzzzzz; role zzzzzzza; scene s lines 1 with zzzzzzzz zzzzzzza z;", 1);
        EDGES.faultyStage(2, "role #zzzzzzzzz;");
        EDGES.faultyStage(2, "role zzzzzzzz; scene s lines 1 with #zzzzzzzzz;");
        EDGES.faultyStage(2, "scene zzzzzzzz lines 1; scene s lines 1 then #zzzzzzzzz;");
        EDGES.faultyStage(2, "role zzzzzzzz; scene s lines 1 kills #zzzzzzzzzzzzzzzzzzzzzzzzzzzzzzzzzzzz;");
        EDGES.faultyWeek(2, "buy #zzzzzzzzz;");
    }

    private static void unlikeNames() {
        EDGES.says(12, "NAME: a WORD of 1 to 8 letters");
        for (int at = 0; at < 8; at++) {
            String ahead = "hgfedcba".substring(0, at);
            String behind = "hgfedcba".substring(at + 1);
            for (char c = 'a'; c < 'z'; c++) {
                for (char d = (char) (c + 1); d <= 'z'; d++) {
                    unlike(ahead + c, ahead + d);
                    unlike(ahead + c + behind, ahead + d + behind);
                }
            }
        }
        right("role a; role aa; role aaa; role aaaa; role aaaaaaa; role aaaaaaaa;", 0);
        right("role z; role za; role az; role zz; role aza; role zaz;", 0);
    }

    private static void unlike(String name, String other) {
        String text = "role " + name + ";role " + other + ";";
        EDGES.due(text, Check.stage(new OneSeat(), text), 0);
    }

    private static void newNames() {
        EDGES.says(12, "3 a new NAME that is taken");
        EDGES.says(12, "One NAME is of one thing alone.");
        String[] old = {"role a;", "actor a pay 1 breath 1;", "scene a lines 1;", "kind a lots 1 tears 0 laughs 0 sleeps 0;"};
        String[] anew = {"role #a;", "actor #a pay 1 breath 1;", "scene #a lines 1;", "kind #a lots 1 tears 0 laughs 0 sleeps 0;"};
        for (String ahead : old) {
            for (String behind : anew) {
                EDGES.faultyStage(3, ahead + behind);
                EDGES.faultyStage(3, ahead + "role b; scene c lines 1;" + behind);
                right(ahead + behind.replace("#a", "aa"), (ahead + behind).split("scene").length - 1);
            }
        }
        // a NAME of the old STAGE is free again
        OneSeat x = Check.with("role a; scene b lines 1;");
        EDGES.fine(x, "NAMES of the old STAGE", Check.stage(x, "role b; scene a lines 1;"), 1);
    }

    private static void namesToldAhead() {
        EDGES.says(12, "a NAME that is no such thing told ahead.");
        String others = "role r; actor t pay 1 breath 1; scene s lines 1; kind k lots 1 tears 0 laughs 0 sleeps 0;";
        String[] scenes = {"then", "tear", "laugh", "sleep"};
        for (String way : scenes) {
            for (String wrong : new String[] {"r", "t", "k", "u", "z"}) {
                EDGES.faultyStage(3, others + "scene u lines 1 " + way + " #" + wrong + "; scene z lines 1;");
            }
            right(others + "scene u lines 1 " + way + " s;", 2);
        }
        for (String wrong : new String[] {"t", "s", "k", "u", "z"}) {
            EDGES.faultyStage(3, others + "scene u lines 1 with #" + wrong + "; role z;");
            EDGES.faultyStage(3, others + "scene u lines 1 with r #" + wrong + "; role z;");
            EDGES.faultyStage(3, others + "scene u lines 1 kills #" + wrong + "; role z;");
            EDGES.faultyStage(3, others + "actor u pay 1 breath 1 not #" + wrong + "; role z;");
            EDGES.faultyStage(3, others + "actor u pay 1 breath 1 not r #" + wrong + "; role z;");
        }
        right(others + "scene u lines 1 with r kills r; actor v pay 1 breath 1 not r;", 2);
    }

    private static void namesOfAWeek() {
        EDGES.says(12, "3 a NAME that is no such one.");
        String[] of = {"bar", "open", "when seen", "buy", "spare", "when dead", "play"};
        String[] right = {"odd", "first", "low", "a", "d", "c", "two"};
        for (int k = 0; k < of.length; k++) {
            for (String wrong : new String[] {"turn", "b", "x", "one", "nobody"}) {
                boolean fits = k < 3 ? wrong.equals("turn") : k < 6 ? wrong.equals("b") : wrong.equals("one");
                if (!fits) {
                    EDGES.faultyWeek(3, of[k] + " #" + wrong + ";");
                }
            }
            boolean opens = of[k].startsWith("when");
            rightWeek(of[k] + " " + right[k] + ";" + (opens ? "end;" : ""), 1);
        }
    }

    private static void numbersOfActorsAndScenes() {
        EDGES.says(12, "4 a NUMBER that can't be");
        EDGES.says(12, "what a breath COSTS (0 to 99), how many BREATHS they have a week (0 to 999)");
        right("actor a pay 0 breath 0; actor b pay 99 breath 999;", 0);
        EDGES.faultyStage(4, "actor a pay #100 breath 1;");
        EDGES.faultyStage(4, "actor a pay 1 breath #1000;");
        EDGES.says(12, "how many LINES (1 to 20)");
        right("scene a lines 1; scene b lines 20;", 2);
        EDGES.faultyStage(4, "scene a lines #0;");
        EDGES.faultyStage(4, "scene a lines #21;");
        EDGES.says(12, "with an ENDING (0 to 8), or none");
        right("scene a lines 1 ends 0; scene b lines 1 ends 8; scene c lines 1;", 3);
        EDGES.faultyStage(4, "scene a lines 1 ends #9;");
    }

    private static void numbersOfKinds() {
        EDGES.says(12, "LOTS (1 to 30)");
        right("kind a lots 1 tears 0 laughs 0 sleeps 0; kind b lots 30 tears 0 laughs 0 sleeps 0;", 0);
        EDGES.faultyStage(4, "kind a lots #0 tears 0 laughs 0 sleeps 0;");
        EDGES.faultyStage(4, "kind a lots #31 tears 0 laughs 0 sleeps 0;");
        EDGES.says(12, "(sixteenths that are more than 16 together, too: at the one)");
        right("kind a lots 1 tears 16 laughs 0 sleeps 0; kind b lots 1 tears 0 laughs 16 sleeps 0; kind c lots 1 tears 0 laughs 0 sleeps 16;"
            + "kind d lots 1 tears 5 laughs 5 sleeps 6;", 0);
        EDGES.faultyStage(4, "kind a lots 1 tears #17 laughs 0 sleeps 0;");
        EDGES.faultyStage(4, "kind a lots 1 tears 0 laughs #17 sleeps 0;");
        EDGES.faultyStage(4, "kind a lots 1 tears 0 laughs 0 sleeps #17;");
        EDGES.faultyStage(4, "kind a lots 1 tears 16 laughs #1 sleeps 0;");
        EDGES.faultyStage(4, "kind a lots 1 tears 1 laughs #16 sleeps 17;");
        EDGES.faultyStage(4, "kind a lots 1 tears 16 laughs 0 sleeps #1;");
        EDGES.faultyStage(4, "kind a lots 1 tears 0 laughs 16 sleeps #1;");
        EDGES.faultyStage(4, "kind a lots 1 tears 5 laughs 5 sleeps #7;");
    }

    private static void numbersOfAWeek() {
        EDGES.says(12, "4 a NUMBER that can't be (ended 0 to 9, nights 0 to 99, loop 1 to 99).");
        rightWeek("when ended 0; end; when ended 9; end;", 2);
        EDGES.faultyWeek(4, "when ended #10; end;");
        for (String compares : new String[] {"<", ">", "="}) {
            rightWeek("when nights " + compares + " 0; end; when nights" + compares + "99;end;", 2);
            EDGES.faultyWeek(4, "when nights " + compares + " #100; end;");
        }
        rightWeek("loop 1; end; loop 99; end;", 2);
        EDGES.faultyWeek(4, "loop #0; end;");
        EDGES.faultyWeek(4, "loop #100; end;");
    }

    private static void rolesAgain() {
        EDGES.says(12, "5 a ROLE again behind with, not (at it).");
        EDGES.faultyStage(5, "role a; scene s lines 1 with a #a;");
        EDGES.faultyStage(5, "role a; role b; scene s lines 1 with b a #b;");
        EDGES.faultyStage(5, SIX_ROLES + "scene s lines 1 with a b c d e f #a;");
        EDGES.faultyStage(5, SIX_ROLES + "scene s lines 1 with f e d c b #f a;");
        EDGES.faultyStage(5, "role a; actor x pay 1 breath 1 not a #a;");
        EDGES.faultyStage(5, SIX_ROLES + "actor x pay 1 breath 1 not f a e b d c #c;");
        right(SIX_ROLES + "scene s lines 1 with a b c d e f kills a; scene t lines 1 with f e d c b a; actor x pay 1 breath 1 not b a f e d c;", 2);
    }

    private static void oneTooMany() {
        EDGES.says(12, "6 a seventh role, actor, a 13th scene, a fifth kind (at that WORD).");
        StringBuilder actors = new StringBuilder();
        StringBuilder scenes = new StringBuilder();
        StringBuilder kinds = new StringBuilder();
        for (char c = 'g'; c < 's'; c++) {
            actors.append(c < 'm' ? "actor " + c + " pay 1 breath 1;" : "");
            scenes.append("scene ").append(c).append(" lines 1;");
            kinds.append(c < 'k' ? "kind " + c + " lots 1 tears 0 laughs 0 sleeps 0;" : "");
        }
        for (String rest : new String[] {"", " z", " ;", " 99999", " a", "?"}) {
            EDGES.faultyStage(6, SIX_ROLES + "#role" + rest);
            EDGES.faultyStage(6, actors + "#actor" + rest);
            EDGES.faultyStage(6, scenes + "#scene" + rest);
            EDGES.faultyStage(6, kinds + "#kind" + rest);
        }
        right(SIX_ROLES + actors + "kind z lots 1 tears 0 laughs 0 sleeps 0;", 0);
        EDGES.says(12, "6 a 31st STEP (at its WORD; end is none).");
        String most = TEN_STOPS + TEN_STOPS + TEN_STOPS;
        for (String word : new String[] {"play", "bar", "open", "buy", "spare", "when", "loop", "stop"}) {
            EDGES.faultyWeek(6, most + "#" + word);
            EDGES.faultyWeek(6, most + "#" + word + "?");
        }
        EDGES.faultyWeek(2, most + "#end;");
        EDGES.faultyWeek(2, most + "#role;");
        rightWeek(most, 30);
    }

    private static void tooDeep() {
        EDGES.says(12, "7 a when, loop within three others (at its WORD).");
        String[] three = {"loop 1;loop 1;loop 1;", "when ended 1;loop 1;when ended 2;", "when dead a;when dead b;when dead c;"};
        for (String ahead : three) {
            EDGES.faultyWeek(7, ahead + "#when");
            EDGES.faultyWeek(7, ahead + "#loop");
            EDGES.faultyWeek(7, ahead + "play;#loop ?");
            EDGES.faultyWeek(7, ahead + "end;loop 1;#when seen low;");
            rightWeek(ahead + "stop;end;loop 1;end;end;when ended 1;loop 1;end;end;end;when dead a;end;", 8);
        }
    }

    private static void theLeastOfOneToken() {
        EDGES.says(12, "FAULTS, the first along the text (of one TOKEN the least kind)");
        EDGES.faultyStage(1, "role #?");
        EDGES.faultyStage(1, "role #12345");
        EDGES.faultyStage(2, "role a; role #9999;");
        EDGES.faultyStage(2, "role a; scene s lines 1 with a #9999");
        EDGES.faultyStage(2, SIX_ROLES + "actor x #role");
        EDGES.faultyStage(2, SIX_ROLES + "scene #role");
        EDGES.faultyStage(2, "scene s lines 1 then #scene");
        EDGES.faultyWeek(6, TEN_STOPS + TEN_STOPS + "stop;stop;stop;stop;stop;stop;stop;loop 1;loop 1;loop 1;#loop 1;");
        EDGES.faultyWeek(6, TEN_STOPS + TEN_STOPS + "stop;stop;stop;stop;stop;stop;stop;loop 1;loop 1;loop 1;#when 1;");
        EDGES.faultyWeek(2, "loop 1;loop 1;loop 1;stop #loop 1;");
    }

    private static void theFirstAlongTheText() {
        EDGES.says(12, "FAULTS, the first along the text");
        EDGES.faultyStage(3, "role a; role #a; ?");
        EDGES.faultyStage(4, "scene s lines #0 then nobody;");
        EDGES.faultyStage(5, SIX_ROLES + "scene s lines 1 with a #a lines 0; role z");
        EDGES.faultyStage(6, SIX_ROLES + "#role a; role 12345");
        EDGES.faultyStage(2, "role a #role a;");
        EDGES.faultyStage(3, "scene s lines 1; scene #s ?");
        EDGES.faultyWeek(7, "loop 1;loop 1;loop 1;#loop 0;");
        EDGES.faultyWeek(3, "play #nobody ? end;");
        EDGES.faultyWeek(4, "loop #0; ?");
        EDGES.faultyWeek(2, "#end; bar nobody;");
    }
}
