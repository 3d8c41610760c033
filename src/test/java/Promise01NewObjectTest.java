/** Promise 1: a new object. */
public final class Promise01NewObjectTest {
    static void promise1NoPitchIsThere(Check check) {
        FieldKeeper x = new FieldKeeper();
        check.due("count(0)", x.count(0), 0);
        check.none("turn(0)", x.turn(0));
        check.none("grass(0, 0, 0)", x.grass(0, 0, 0));
        for (int what = 0; what <= 5; what++) {
            check.none("field(0, " + what + ")", x.field(0, what));
            check.none("would(0, " + what + ")", x.would(0, what));
        }
        check.due("the first one", x.pitch(0, 0), 0);
    }

    static void promise1NoGameNoTextNoSign(Check check) {
        FieldKeeper x = new FieldKeeper();
        for (int what = 0; what <= 9; what++) {
            check.due("count(" + what + ")", x.count(what), 0);
        }
        check.due("look(0, 0)", Calls.look(x, 0, 0), Calls.THROWN);
        check.none("at(0, 0, 0)", x.at(0, 0, 0));
        for (int club = 0; club <= 15; club++) {
            for (int what = 0; what <= 2; what++) {
                check.due("club(" + club + ", " + what + ")", x.club(club, what), 0);
            }
        }
        check.due("the first game", x.game(0, 1, 0, 0, 0, 1), 0);
    }

    static void promise1Day0IsNext(Check check) {
        FieldKeeper x = new FieldKeeper();
        check.due("days over", x.count(2), 0);
        check.due("the first day", x.day(0, 0), 0);
        check.due("the second", x.day(0, 0), 1);
    }

    static void promise1ObjectsShareNothing(Check check) {
        FieldKeeper x = Calls.keeper(2);
        x.game(0, 1, 0, 0, 0, 1);
        x.lay(0);
        Calls.read(x, "shut 1 when 1;");
        Calls.feed(x, "abc");
        x.day(5, 5);
        FieldKeeper y = new FieldKeeper();
        for (int what = 0; what <= 9; what++) {
            check.due("count(" + what + ")", y.count(what), 0);
        }
        check.due("club(0, 0)", y.club(0, 0), 0);
        check.due("pitch", y.pitch(2, 0), 0);
        check.due("grass", y.grass(0, 0, 0), 800);
        check.due("the older one has its game", x.count(5), 1);
    }

    static void promise1NoneIsMinus1(Check check) {
        check.due("NONE", FieldKeeper.NONE, -1);
    }

    public static void main(String[] args) {
        Check.runTests(Promise01NewObjectTest.class);
    }
}
