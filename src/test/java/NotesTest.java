/** Promises 24 to 27: knock, note, clear, wrong. */
public final class NotesTest {
    // Hollow are 2, 5, 10, 13; sworn to be hollow are 2, 7, 12.
    private static final String WALL = "oath 5 from 3;course 4;course 10;slip at 4 by 2;slip at 11 by 2;";

    public static void main(String[] args) {
        knocks();
        notes();
        clears();
        wrongs();
        Checks.end();
    }

    private static void knocks() {
        HollowWall x = Checks.built(WALL);
        for (int s = 0; s < 14; s++) {
            int due = s == 2 || s == 5 || s == 10 || s == 13 ? 1 : 0;
            Checks.fine(x, "knock " + s, x.knock(s), due);
            Checks.fine(x, "noted of " + s, x.stone(s, 6), due);
            Checks.fine(x, "noted in all", x.many(8), s + 1);
        }
        x.note(2, 0);
        Checks.fine(x, "knock again", x.knock(2), 1);
        Checks.fine(x, "noted again", x.stone(2, 6), 1);
        Checks.refused(x, "knock 14", x.knock(14), 2);
        Checks.refused(x, "knock -1", x.knock(-1), 2);
    }

    private static void notes() {
        HollowWall x = Checks.built(WALL);
        Checks.accepted(x, "full", x.note(2, 0));
        Checks.fine(x, "noted", x.stone(2, 6), 0);
        Checks.accepted(x, "hollow", x.note(2, 1));
        Checks.fine(x, "noted", x.stone(2, 6), 1);
        Checks.denied(x, "2", x.note(2, 2), 5);
        Checks.denied(x, "-2", x.note(2, -2), 5);
        Checks.denied(x, "no stone", x.note(14, 2), 2);
        Checks.denied(x, "no stone", x.note(-1, 0), 2);
        Checks.fine(x, "stays", x.stone(2, 6), 1);
        Checks.accepted(x, "nothing", x.note(2, HollowWall.NONE));
        Checks.refused(x, "noted nothing", x.stone(2, 6), 8);
        Checks.accepted(x, "nothing again", x.note(2, HollowWall.NONE));
        Checks.fine(x, "none", x.many(8), 0);
    }

    private static void clears() {
        HollowWall x = Checks.built(WALL);
        Checks.fine(x, "clear", x.clear(), 0);
        x.note(0, 1);
        x.note(13, 0);
        x.note(5, 0);
        Checks.fine(x, "clear", x.clear(), 3);
        Checks.fine(x, "none", x.many(8), 0);
        Checks.refused(x, "noted", x.stone(13, 6), 8);
        Checks.fine(x, "clear", x.clear(), 0);
    }

    private static void wrongs() {
        HollowWall x = Checks.built(WALL);
        Checks.refused(x, "nothing noted", x.wrong(), 8);
        x.note(2, 1);
        x.note(3, 0);
        x.note(7, 1);
        Checks.refused(x, "as sworn", x.wrong(), 8);
        x.note(12, 0);
        Checks.fine(x, "sworn hollow, noted full", x.wrong(), 12);
        x.knock(5);
        Checks.fine(x, "sworn full, noted hollow", x.wrong(), 5);
        x.note(5, -1);
        x.note(12, -1);
        Checks.refused(x, "gone", x.wrong(), 8);
    }
}
