/** Promise 9: grass. */
public final class Promise09GrassTest {
    static void promise9RowsAre0To3(Check check) {
        FieldKeeper x = Calls.keeper(1);
        check.due("row 0", x.grass(0, 0, 0), 800);
        check.due("row 3", x.grass(0, 3, 0), 800);
        for (int row : new int[] {-1, 4, 5, Calls.MIN, Calls.MAX}) {
            check.none("row " + row, x.grass(0, row, 0));
        }
    }

    static void promise9ColumnsAre0To5(Check check) {
        FieldKeeper x = Calls.keeper(1);
        check.due("column 0", x.grass(0, 0, 0), 800);
        check.due("column 5", x.grass(0, 0, 5), 800);
        for (int column : new int[] {-1, 6, 7, Calls.MIN, Calls.MAX}) {
            check.none("column " + column, x.grass(0, 0, column));
        }
    }

    static void promise9PitchesThatAreThere(Check check) {
        check.none("grass(0, 0, 0) without a pitch", new FieldKeeper().grass(0, 0, 0));
        for (int pitches = 1; pitches <= 6; pitches++) {
            FieldKeeper x = Calls.keeper(pitches);
            check.due("the last of " + pitches, x.grass(pitches - 1, 0, 0), 800);
            check.none("the next of " + pitches, x.grass(pitches, 0, 0));
            for (int pitch : new int[] {-1, 6, Calls.MIN, Calls.MAX}) {
                check.none("pitch " + pitch, x.grass(pitch, 0, 0));
            }
        }
    }

    /** A column beyond a row's end is not the next row's, though the cells may lie in one row inside. */
    static void promise9NoRowRunsIntoTheNext(Check check) {
        FieldKeeper x = Calls.keeper(2);
        for (int column : new int[] {6, 11, 12, 23}) {
            check.none("row 0, column " + column, x.grass(0, 0, column));
        }
        check.none("row 1, column -1", x.grass(0, 1, -1));
        check.none("row 4, column -1", x.grass(0, 4, -1));
        check.none("row -1, column 6", x.grass(0, -1, 6));
        check.none("row 3, column 6", x.grass(0, 3, 6));
    }

    static void promise9EachCellIsItsOwn(Check check) {
        for (int stand = 0; stand <= 1; stand++) {
            FieldKeeper x = new FieldKeeper();
            x.pitch(2, stand);
            x.pitch(2, stand);
            x.game(0, 1, 0, 0, 0, 1);
            x.lay(0);
            x.day(0, 0);
            for (int cell = 0; cell < 24; cell++) {
                int row = cell / 6;
                int column = cell % 6;
                check.due("cell " + cell, x.grass(0, row, column), 800 - 4 * Calls.factor(stand, row, column));
                check.due("the other pitch's", x.grass(1, row, column), 800);
            }
        }
    }

    public static void main(String[] args) {
        Check.runTests(Promise09GrassTest.class);
    }
}
