/** Promises 9 to 12: feed, wall, round, fault. */
public final class TextsTest {
    private static final String OATH = "oath 7 from 1;";

    public static void main(String[] args) {
        tape();
        lengths();
        wallsTaken();
        wallFaults();
        wallLimits();
        cutTexts();
        names();
        oldWallStays();
        roundsTaken();
        roundFaults();
        oldRoundStays();
        faultsTold();
        Checks.end();
    }

    private static void tape() {
        HollowWall x = new HollowWall();
        for (int i = 1; i <= 45; i++) {
            Checks.same("feed " + i, x.feed(0x20202020, 0x20202020, 0x20202020, 0x20202020, 0x20202020), 20 * i);
        }
        Checks.same("a full tape", x.feed(1, 2, 3, 4, 5), -1);
        Checks.same("status", x.status(), 0);
        Checks.refused(x, "above the tape", x.wall(901), 5);
        Checks.refused(x, "blanks alone", x.wall(900), 10);
        Checks.same("fault", x.fault(0), 2);
        Checks.same("place", x.fault(1), 900);
        Checks.same("empty anew", x.feed(1, 2, 3, 4, 5), 20);
        HollowWall y = new HollowWall();
        // "oath 2 from 2;     " with the highest byte of each int first
        y.feed(0x6f617468, 0x20322066, 0x726f6d20, 0x323b2020, 0x20202020);
        Checks.fine(y, "wall", y.wall(14), 0);
        Checks.same("M", y.many(5), 2);
        Checks.same("FIRST", y.many(6), 2);
    }

    private static void lengths() {
        HollowWall x = new HollowWall();
        Checks.refused(x, "nothing on the tape", x.wall(0), 10);
        Checks.same("fault", x.fault(0), 2);
        Checks.same("place", x.fault(1), 0);
        Checks.refused(x, "more than there is", x.wall(1), 5);
        Checks.refused(x, "below 0", x.wall(-1), 5);
        Checks.feed(x, OATH);
        Checks.refused(x, "more than there is", x.wall(21), 5);
        Checks.refused(x, "the least int", x.wall(Integer.MIN_VALUE), 5);
        Checks.refused(x, "round: more than there is", x.round(21), 5);
        Checks.refused(x, "round: below 0", x.round(-1), 5);
        Checks.fine(x, "the tape stayed", x.wall(14), 0);
        Checks.refused(x, "now it is empty", x.wall(14), 5);
        Checks.feed(x, " ".repeat(320));
        Checks.refused(x, "round: above 300", x.round(301), 5);
        Checks.fine(x, "round: 300 blanks", x.round(300), 0);
        Checks.refused(x, "all of the tape is gone", x.round(1), 5);
        Checks.fine(x, "round: nothing", x.round(0), 0);
        StringBuilder long900 = new StringBuilder(OATH).append("course 9;");
        while (long900.length() < 899) {
            long900.append('\n');
        }
        long900.append(' ');
        Checks.fine(x, "wall of 900 bytes", Checks.wall(x, long900.toString()), 9);
    }

    private static void wallsTaken() {
        Faults.wallTaken(OATH, 0);
        Faults.wallTaken("oath 13 from 13;course 16;", 16);
        Faults.wallTaken(" \n oath\n0002 from 01 ; course\n\n3 ;\n", 3);
        Faults.wallAtBar("oath7from1;course3;|masonalaysx", 2);
        Faults.wallTaken("oath7from1;course3;mason alays lays5costs1;slip at2by6;find at0year0000;", 3);
        Faults.wallTaken(OATH + "mason a lays 96 costs 9;course 2;slip at 1 by 1;course 5;slip at 5 by 2;", 7);
    }

    private static void wallFaults() {
        String[] first = {"|Oath 7 from 1;", "|@", "oath|\t7 from 1;", "oath |12345 from 1;", OATH + "|.", OATH + "|00001",
            OATH + "course 5|,", "oath 7 |- from 1;", OATH + "course |10000;", "|\u00e9", "oath |123456;"};
        for (String text : first) {
            Faults.wallAtBar(text, 1);
        }
        String[] second = {"|", "   |", "|oaths 7", "|7", "oath|", "oath |from", "oath 7 |7", "oath 7 from |;",
            "oath 7 from 1|", "oath 7 from 1 |course", OATH + "|;", OATH + "|7", OATH + "|oath 7 from 1;",
            OATH + "|courses 5;", OATH + "course |;", OATH + "course 5 |<", OATH + "course 5|",
            OATH + "course 5;slip |5", OATH + "course 5;slip at 2 |2", OATH + "course 5;slip at 2 by |;",
            OATH + "course 5;find at 2 |by 5;", OATH + "course 5;find at 2 year |=", OATH + "mason |;",
            OATH + "mason |5", OATH + "mason a |costs", OATH + "mason a lays |a", OATH + "mason a lays 5 |;",
            OATH + "mason a lays 5 costs |;", OATH + "mason a lays 5 costs 5|", OATH + "|end"};
        for (String text : second) {
            Faults.wallAtBar(text, 2);
        }
        // The end is told at the text's length, blanks and all.
        Faults.wall("oath 7  \n", 2, 9);
        Faults.wall("   ", 2, 3);
        String[] fourth = {"oath |1 from 1;", "oath |14 from 1;", "oath |0 from 1;", "oath 7 from |0;", "oath 7 from |8;",
            "oath 2 from |3;", OATH + "course |0;", OATH + "course |17;", OATH + "mason a lays |0 costs 1;",
            OATH + "mason a lays |97 costs 1;", OATH + "mason a lays 5 costs |0;", OATH + "mason a lays 5 costs |10;",
            OATH + "slip at |0 by 1;", OATH + "slip at |1 by 1;course 5;", OATH + "course 5;slip at |5 by 1;",
            OATH + "course 5;slip at 1 by |0;", OATH + "course 5;slip at 1 by |7;", OATH + "find at |0 year 5;",
            OATH + "course 5;find at |5 year 5;", "oath 2 from 1;course 5;slip at 1 by |2;"};
        for (String text : fourth) {
            Faults.wallAtBar(text, 4);
        }
        String[] fifth = {OATH + "course 9;slip at |0 by 1;", OATH + "course 9;slip at 3 by 1;slip at |3 by 1;",
            OATH + "course 9;slip at 3 by 1;slip at |2 by 1;", OATH + "course 9;slip at 3 by 1;slip at |0 by 1;",
            OATH + "course 9;find at 3 year 1;find at |3 year 1;", OATH + "course 9;find at 0 year 0;find at |0 by",
            OATH + "course 9;slip at |0 "};
        for (String text : fifth) {
            Faults.wallAtBar(text, 5);
        }
        // the first along the text
        Faults.wallAtBar("oath |1 from 9;@", 4);
        Faults.wallAtBar(OATH + "course |0 @", 4);
        Faults.wallAtBar(OATH + "course 5;slip at |7 @", 4);
    }

    private static void wallLimits() {
        String courses = OATH + "course 1;".repeat(6);
        Faults.wallTaken(courses, 6);
        Faults.wallAtBar(courses + "|course 1;", 6);
        Faults.wallAtBar(courses + "|course @", 6);
        Faults.wallTaken(OATH + "course 16;".repeat(6), 96);
        String masons = OATH + "mason a lays 1 costs 1;mason b lays 1 costs 1;mason c lays 1 costs 1;"
                + "mason d lays 1 costs 1;";
        Faults.wallTaken(masons, 0);
        Faults.wallAtBar(masons + "|mason a lays 1 costs 1;", 6);
        StringBuilder slips = new StringBuilder(OATH).append("course 9;");
        for (int i = 1; i <= 6; i++) {
            slips.append("slip at ").append(i).append(" by 1;");
        }
        Faults.wallTaken(slips.toString(), 9);
        Faults.wallAtBar(slips + "|slip at 1 by 1;", 6);
        StringBuilder finds = new StringBuilder(OATH).append("course 9;");
        for (int i = 8; i > 0; i--) {
            finds.append("find at ").append(i).append(" year ").append(i).append(";");
        }
        Faults.wallTaken(finds.toString(), 9);
        Faults.wallAtBar(finds + "|find at 1 year 1;", 6);
        Faults.wallAtBar(finds + "|find at 0 year 1;", 6);
    }

    /** What is on the tape behind the text is not read. */
    private static void cutTexts() {
        String[] cut = {"oath 7 from 1|23;", "oat|h 7 from 1;", OATH + "course 1|6;",
            OATH + "cours|e 9;", OATH + "course 9|;", "oath 7 from 1|;"};
        for (String text : cut) {
            int n = text.indexOf('|');
            HollowWall x = new HollowWall();
            Checks.feed(x, text.replace("|", ""));
            Checks.refused(x, text, x.wall(n), 10);
            boolean isWordCut = text.charAt(n - 1) > '9';
            Checks.same("fault of " + text, x.fault(0), 2);
            Checks.same("place of " + text, x.fault(1), isWordCut ? text.lastIndexOf(';', n) + 1 : n);
        }
        HollowWall x = new HollowWall();
        Checks.feed(x, OATH + "course 9;course 5;");
        Checks.fine(x, "the first alone", x.wall(23), 9);
        Checks.feed(x, "go 1;go 2;@");
        Checks.fine(x, "the first alone", x.round(5), 1);
        Checks.feed(x, "go 12;");
        Checks.refused(x, "go 1", x.round(4), 10);
        Checks.same("its end", x.fault(1), 4);
    }

    private static void names() {
        String reserved = "oath from course mason lays costs slip at by find year go back knock note turn when hollow full"
                + " stone noted first loop end stop";
        for (String word : reserved.split(" ")) {
            Faults.wallAtBar(OATH + "mason |" + word + " lays 1 costs 1;", 2);
            Faults.wallAtBar(OATH + "mason |" + word + "\nlays 1 costs 1;", 2);
        }
        String[] good = {"a", "oat", "oaths", "abcdefgh", "no", "ote", "ends", "nd", "stopend", "z", "wall", "round"};
        for (String word : good) {
            Faults.wallTaken(OATH + "course 2;mason " + word + " lays 1 costs 1;", 2);
        }
        Faults.wallAtBar(OATH + "mason |abcdefghi lays 1 costs 1;", 2);
        Faults.wallAtBar(OATH + "mason a lays 1 costs 1;mason |a lays 1 costs 1;", 3);
        Faults.wallAtBar(OATH + "mason a lays 1 costs 1;mason |a\nlays 1 costs 1;", 3);
        Faults.wallAtBar(OATH + "mason ab lays 1 costs 1;mason a lays 1 costs 1;mason |ab @", 3);
        Faults.wallTaken(OATH + "course 1;mason ab lays 1 costs 1;mason a lays 1 costs 1;mason b lays 1 costs 1;mason aba lays 1 costs 2;",
            1);
        // NAMES are of one WALL alone.
        HollowWall x = Checks.built(OATH + "mason a lays 1 costs 1;");
        Checks.fine(x, "the same name in another wall", Checks.wall(x, OATH + "mason a lays 1 costs 1;"), 0);
    }

    private static void oldWallStays() {
        HollowWall x = Checks.built("oath 5 from 2;course 9;mason a lays 4 costs 3;slip at 3 by 2;find at 3 year 7;");
        x.hammer(4);
        x.knock(3);
        Checks.round(x, "stop;");
        int[] due = {9, 1, 1, 1, 1, 5, 2, 4, 1};
        Checks.refused(x, "a faulty wall", Checks.wall(x, "oath 6 from 3;course 7;course 8;slip at 9 by 9;"), 10);
        for (int what = 0; what < due.length; what++) {
            Checks.fine(x, "many " + what, x.many(what), due[what]);
        }
        Checks.fine(x, "its count", x.stone(3, 3), 2);
        Checks.fine(x, "its find", x.stone(3, 7), 7);
        Checks.fine(x, "its round", x.walk(0, 0), 1);
        Checks.fine(x, "a new wall", Checks.wall(x, "oath 6 from 3;course 7;"), 7);
        int[] newDue = {7, 1, 0, 0, 0, 6, 3, 0, 0};
        for (int what = 0; what < newDue.length; what++) {
            Checks.fine(x, "new many " + what, x.many(what), newDue[what]);
        }
        Checks.refused(x, "no round now", x.walk(0, 0), 8);
        Checks.refused(x, "no find now", x.stone(3, 7), 8);
        Checks.fine(x, "no slip now", x.stone(3, 3), 6);
    }

    private static void roundsTaken() {
        Faults.roundTaken("", 0);
        Faults.roundTaken(" \n ", 0);
        Faults.roundTaken("go 1;back 99;knock;note;turn;stop;", 6);
        Faults.roundTaken("when hollow;end;when full;end;when noted;end;when first;end;", 4);
        Faults.roundTaken("when stone<0;end;when stone > 99 ; end;when stone=50;knock;end;", 4);
        Faults.roundTaken("loop 1;loop 99;when full;end;end;end;", 3);
        Faults.roundTaken("loop 1;loop 2;loop 3;end;end;end;loop 1;end;", 4);
        Faults.roundTaken("go1;back2;", 2);
        Faults.roundTaken("stop;".repeat(30), 30);
        Faults.roundTaken("loop 9;end;".repeat(27), 27);
        Faults.roundTaken("when full;end;".repeat(20) + "go 1;", 21);
    }

    private static void roundFaults() {
        String[] first = {"|@", "go |12345;", "|00000;", "knock|?", "when stone |!", "stop|:"};
        for (String text : first) {
            Faults.roundAtBar(text, 1);
        }
        String[] second = {"|end;", "knock;|end;", "loop 1;end;|end;", "loop 1;|", "when full;end;when full;knock;|",
            "go|", "go |;", "knock |knock;", "knock|", "go 1|", "|1", "|;", "|course 1;", "when |go;", "when |;",
            "when stone |5", "when stone < |;", "when stone <|", "when stone |;", "loop |;", "loop 1;end|", "|full;",
            "when hollow |hollow;", "note |1;", "|goo 1;", "|knocks;", "|oath 7 from 1;"};
        for (String text : second) {
            Faults.roundAtBar(text, 2);
        }
        String[] fourth = {"go |0;", "go |100;", "back |0;", "back |100;", "loop |0;end;", "loop |100;",
            "when stone < |100;", "when stone = |9999;", "go |0 @"};
        for (String text : fourth) {
            Faults.roundAtBar(text, 4);
        }
        Faults.roundAtBar("stop;".repeat(30) + "|stop;", 6);
        Faults.roundAtBar("stop;".repeat(30) + "|nothing;", 2);
        Faults.roundAtBar("stop;".repeat(30) + "|end;", 2);
        Faults.roundAtBar("stop;".repeat(29) + "loop 1;end;|go @", 6);
        Faults.roundAtBar("loop 1;when full;loop 2;|when full;", 7);
        Faults.roundAtBar("loop 1;when full;loop 2;|loop 0;", 7);
        Faults.roundAtBar("loop 1;when full;loop 2;end;loop 3;knock;|loop 0;", 7);
        Faults.roundAtBar("knock;".repeat(27) + "loop 1;loop 1;loop 1;|loop 1;", 6);
        // the text's length, blanks and all
        HollowWall x = new HollowWall();
        Checks.refused(x, "open", Checks.round(x, "loop 1;  "), 10);
        Checks.same("fault", x.fault(0), 2);
        Checks.same("place", x.fault(1), 9);
    }

    private static void oldRoundStays() {
        HollowWall x = Checks.built(OATH + "course 9;");
        Checks.fine(x, "round", Checks.round(x, "knock;note;"), 2);
        Checks.refused(x, "a faulty round", Checks.round(x, "go 1;go 1;go 1;go;"), 10);
        Checks.same("the tape is empty", x.feed(0, 0, 0, 0, 0), 20);
        Checks.fine(x, "the old round", x.walk(0, 0), 2);
        Checks.fine(x, "where", x.many(7), 0);
        Checks.refused(x, "too long", x.round(21), 5);
        Checks.same("the tape stays", x.feed(0, 0, 0, 0, 0), 40);
        Checks.fine(x, "the old round", x.walk(0, 0), 2);
    }

    private static void faultsTold() {
        HollowWall x = new HollowWall();
        Checks.same("ahead of any", x.fault(0), -1);
        Checks.refused(x, "5", x.wall(5), 5);
        Checks.same("behind 5", x.fault(0), -1);
        Checks.wall(x, "oath 1");
        Checks.same("fault", x.fault(0), 4);
        Checks.same("place", x.fault(1), 5);
        Checks.same("what 2", x.fault(2), -1);
        Checks.same("what -1", x.fault(-1), -1);
        Checks.same("status stays", x.status(), 10);
        Checks.refused(x, "5", x.round(500), 5);
        Checks.same("fault stays", x.fault(0), 4);
        Checks.same("place stays", x.fault(1), 5);
        Checks.round(x, "go 1;");
        Checks.same("none now", x.fault(0), 0);
        Checks.same("no place now", x.fault(1), -1);
        Checks.round(x, "go 1;@");
        Checks.same("fault", x.fault(0), 1);
        Checks.same("place", x.fault(1), 5);
        Checks.wall(x, OATH);
        Checks.same("none now", x.fault(0), 0);
    }
}
