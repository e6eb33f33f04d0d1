import java.util.NoSuchElementException;

/** Promises 12 to 26: numbers of members, needles, who would win, orders, and the weather. */
public final class QuestionsTest {
    private static final Class<IndexOutOfBoundsException> INDEX = IndexOutOfBoundsException.class;
    private static final Class<IllegalArgumentException> ARGUMENT = IllegalArgumentException.class;
    private static final Class<NoSuchElementException> ELEMENT = NoSuchElementException.class;

    private static void due(String what, Object got, Object want) {
        Check.due(what, got, want);
    }

    private static void promise12MemberOf() {
        BarometerClub club = Clubs.of(3, 7);
        club.wager(1, 900, 6);
        club.read();
        club.day(-33);
        club.bottle(1);
        club.wager(1, 888, 4);
        club.tap(1);
        int[] numbers = {45, 7, 888, 4, 1, 1, 1};
        for (int what = 0; what < numbers.length; what++) {
            due("12 number " + what, club.memberOf(1, what), numbers[what]);
        }
        int[] others = {50, 3, -1, 0, 0, 0, 0};
        for (int what = 0; what < others.length; what++) {
            due("12 number of the other " + what, club.memberOf(0, what), others[what]);
        }
        Check.thrown("12 what above", ARGUMENT, () -> club.memberOf(0, 7));
        Check.thrown("12 what below", ARGUMENT, () -> club.memberOf(0, -1));
        Check.thrown("12 nobody", INDEX, () -> club.memberOf(2, 0));
        Check.thrown("12 nobody below", INDEX, () -> club.memberOf(-1, 0));
        Check.thrown("12 nobody first", INDEX, () -> club.memberOf(2, 7));
    }

    private static void promises13And14Needle() {
        BarometerClub club = Clubs.of(0, 9, 4);
        int[] shown = {1000, 892, 952};
        for (int member = 0; member < shown.length; member++) {
            due("13 needle", club.needle(member), shown[member]);
            due("14 needle again", club.needleAgain(member), shown[member]);
        }
        club.day(-40);
        club.exchange(0, 1);
        due("13 behind a day", club.needle(0), 852);
        due("14 behind a day", club.needleAgain(0), 852);
        for (int member : new int[] {-1, 3, 6, Integer.MAX_VALUE, Integer.MIN_VALUE}) {
            Check.thrown("13 nobody", INDEX, () -> club.needle(member));
            Check.thrown("14 nobody", INDEX, () -> club.needleAgain(member));
        }
    }

    private static void promise15Off() {
        BarometerClub club = Clubs.of(0, 9);
        club.wager(0, 1100, 1);
        due("15 above", club.off(0), 100);
        Check.thrown("15 not wagered", ELEMENT, () -> club.off(1));
        Check.thrown("15 nobody", INDEX, () -> club.off(2));
        Check.thrown("15 nobody below", INDEX, () -> club.off(-1));
        club.wager(1, 700, 1);
        due("15 below", club.off(1), 192);
        club.day(13);
        due("15 now", club.off(1), 205);
        club.tap(0);
        due("15 tapped", club.off(0), 87);
        club.read();
        Check.thrown("15 behind the reading", ELEMENT, () -> club.off(0));
    }

    private static void promise16Owner() {
        BarometerClub club = Clubs.of(0, 9, 4);
        due("16 lowest", club.owner(0), 0);
        due("16 highest", club.owner(9), 1);
        due("16 another", club.owner(4), 2);
        Check.thrown("16 free", ELEMENT, () -> club.owner(5));
        Check.thrown("16 below", ARGUMENT, () -> club.owner(-1));
        Check.thrown("16 above", ARGUMENT, () -> club.owner(10));
        club.leave(0);
        due("16 numbers become less", club.owner(9), 0);
        Check.thrown("16 free again", ELEMENT, () -> club.owner(0));
    }

    private static void promises17To19Winners() {
        BarometerClub club = Clubs.of(0, 1, 2, 3, 4, 5);
        dueWinners("nobody has wagered", club, 0, 0);
        club.wager(1, 700, 9);
        dueWinners("one alone, far off", club, 2, 9);
        club.wager(5, 950, 3);
        dueWinners("the nearer one", club, 32, 12);
        club.wager(0, 1010, 5);
        dueWinners("two as near, on both sides", club, 33, 8);
        club.wager(2, 966, 2);
        dueWinners("three as near", club, 37, 6);
        club.tap(0);
        dueWinners("tapped", club, 36, 10);
        club.tap(2);
        club.tap(5);
        dueWinners("the one that did not tap", club, 2, 22);
        club.tap(1);
        dueWinners("all tapped", club, 0, 0);
        BarometerClub far = Clubs.of(0);
        for (int day = 0; day < 3; day++) {
            far.day(30);
        }
        far.day(10);
        far.wager(0, 700, 1);
        dueWinners("400 off", far, 1, 1);
        BarometerClub near = Clubs.of(0, 1, 2);
        near.wager(0, 1001, 1);
        near.wager(1, 988, 1);
        near.wager(2, 975, 1);
        dueWinners("not off at all", near, 2, 3);
    }

    private static void dueWinners(String what, BarometerClub club, int set, int share) {
        due("17 " + what, club.winners(), set);
        due("18 " + what, club.winnersAgain(), set);
        due("19 " + what, club.share(), share);
    }

    private static void promise20WouldWin() {
        BarometerClub club = Clubs.of(0, 1);
        due("20 nobody", club.wouldWin(0), 0);
        club.wager(0, 1000, 1);
        club.wager(1, 968, 1);
        due("20 no change", club.wouldWin(0), 1);
        due("20 as near", club.wouldWin(-10), 3);
        due("20 lower", club.wouldWin(-11), 2);
        due("20 lowest change", club.wouldWin(-40), 2);
        due("20 highest change", club.wouldWin(40), 1);
        Check.thrown("20 below", ARGUMENT, () -> club.wouldWin(-41));
        Check.thrown("20 above", ARGUMENT, () -> club.wouldWin(41));
        due("20 pressure stays", club.weather(0), 1000);
        due("20 days stay", club.weather(3), 0);
        BarometerClub low = Clubs.of(0, 1);
        low.day(-40);
        low.day(-40);
        low.wager(0, 900, 1);
        low.wager(1, 880, 1);
        due("20 held at 900", low.wouldWin(-40), 1);
        BarometerClub high = Clubs.of(0, 1);
        high.day(40);
        high.day(40);
        high.wager(0, 1099, 1);
        high.wager(1, 1100, 1);
        due("20 held at 1100", high.wouldWin(40), 1);
    }

    private static void promise21ChangeFor() {
        BarometerClub club = Clubs.of(0, 1, 2);
        Check.thrown("21 nobody has wagered", ELEMENT, () -> club.changeFor(0));
        club.wager(0, 1000, 1);
        due("21 wins alone now", club.changeFor(0), 0);
        club.wager(1, 968, 1);
        due("21 down", club.changeFor(1), -11);
        Check.thrown("21 not wagered", ELEMENT, () -> club.changeFor(2));
        Check.thrown("21 nobody", INDEX, () -> club.changeFor(3));
        Check.thrown("21 below", INDEX, () -> club.changeFor(-1));
        club.wager(2, 1008, 1);
        due("21 up", club.changeFor(2), 17);
        club.tap(2);
        Check.thrown("21 tapped", ELEMENT, () -> club.changeFor(2));
        club.tap(1);
        due("21 left alone", club.changeFor(0), 0);
        Check.thrown("21 tapped, too", ELEMENT, () -> club.changeFor(1));
        BarometerClub even = Clubs.of(0, 1);
        even.wager(0, 1000, 1);
        even.wager(1, 988, 1);
        Check.thrown("21 never alone", ELEMENT, () -> even.changeFor(0));
        BarometerClub sides = Clubs.of(0, 1, 2);
        sides.wager(0, 1010, 1);
        sides.wager(1, 978, 1);
        sides.wager(2, 966, 1);
        sides.tap(0);
        due("21 two as near now", sides.winners(), 6);
        Check.thrown("21 as near always", ELEMENT, () -> sides.changeFor(2));
        dueWinsAloneBetween();
    }

    /** Each of three would win alone within other changes: the nearest of them to 0 is due. */
    private static void dueWinsAloneBetween() {
        BarometerClub club = Clubs.of(0, 1, 2);
        club.wager(0, 1001, 1);
        club.wager(1, 983, 1);
        club.wager(2, 963, 1);
        due("21 who wins now", club.winners(), 1);
        due("21 the nearest below 0", club.changeFor(1), -3);
        due("21 the farther one", club.changeFor(2), -10);
        club.day(-20);
        due("21 the nearest above 0", club.changeFor(1), 12);
        due("21 the farthest above 0", club.changeFor(0), 19);
        BarometerClub edge = Clubs.of(0, 1);
        edge.wager(0, 1000, 1);
        edge.wager(1, 988 - 79, 1);
        due("21 the lowest change", edge.changeFor(1), -40);
        BarometerClub beyond = Clubs.of(0, 1);
        beyond.wager(0, 1000, 1);
        beyond.wager(1, 988 - 80, 1);
        Check.thrown("21 as near behind -40", ELEMENT, () -> beyond.changeFor(1));
        BarometerClub upper = Clubs.of(0, 1);
        upper.wager(0, 1000, 1);
        upper.wager(1, 988 + 79, 1);
        due("21 the highest change", upper.changeFor(1), 40);
        BarometerClub held = Clubs.of(0, 1);
        held.day(40);
        held.day(40);
        held.wager(0, 1079, 1);
        held.wager(1, 1100, 1);
        due("21 held below 1100", held.changeFor(1), 16);
        BarometerClub stuck = Clubs.of(0, 1);
        stuck.day(40);
        stuck.day(40);
        stuck.wager(0, 1091, 1);
        stuck.wager(1, 1096, 1);
        due("21 held at 1100", stuck.changeFor(1), 20);
        stuck.undo();
        stuck.undo();
        stuck.wager(0, 1092, 1);
        stuck.wager(1, 1096, 1);
        Check.thrown("21 as near at 1100", ELEMENT, () -> stuck.changeFor(1));
    }

    private static void promise22BestGuess() {
        BarometerClub club = Clubs.of(0, 9);
        due("22 lowest height", club.bestGuess(0), 1000);
        due("22 highest height", club.bestGuess(1), 892);
        Check.thrown("22 nobody", INDEX, () -> club.bestGuess(2));
        Check.thrown("22 below", INDEX, () -> club.bestGuess(-1));
        club.day(40);
        club.day(40);
        club.day(20);
        due("22 highest", club.bestGuess(0), 1100);
        for (int day = 0; day < 5; day++) {
            club.day(-40);
        }
        due("22 lowest", club.bestGuess(1), 792);
        club.wager(1, 792, 1);
        due("22 wagered", club.bestGuess(1), 792);
    }

    private static void promise23NearestFree() {
        BarometerClub club = Clubs.of(4, 3, 0, 1, 2, 9);
        due("23 above", club.nearestFree(0), 5);
        due("23 two away", club.nearestFree(1), 5);
        due("23 from the lowest", club.nearestFree(2), 5);
        due("23 below", club.nearestFree(5), 8);
        club.leave(1);
        due("23 of two as near the lower one", club.nearestFree(0), 3);
        due("23 nearest above", club.nearestFree(3), 3);
        Check.thrown("23 nobody", INDEX, () -> club.nearestFree(5));
        Check.thrown("23 below", INDEX, () -> club.nearestFree(-1));
        BarometerClub poor = Clubs.of(0, 9);
        poor.move(0, 8);
        poor.move(0, 0);
        poor.move(0, 7);
        due("23 can pay", poor.nearestFree(0), 6);
        poor.wager(0, 900, 2);
        due("23 can just pay", poor.nearestFree(0), 6);
        poor.join(6);
        due("23 the other side", poor.nearestFree(0), 8);
        poor.join(8);
        Check.thrown("23 can pay for owned ones alone", ELEMENT, () -> poor.nearestFree(0));
        BarometerClub between = Clubs.of(0, 1, 2);
        between.move(0, 9);
        between.move(0, 0);
        between.move(0, 5);
        between.wager(0, 900, 2);
        between.move(1, 4);
        between.move(2, 6);
        due("23 two coins", between.memberOf(0, 0), 2);
        Check.thrown("23 lacks two", ELEMENT, () -> between.nearestFree(0));
    }

    private static void promise24Ranked() {
        BarometerClub club = Clubs.of(2, 7, 0, 5);
        club.wager(1, 916, 3);
        club.wager(3, 700, 1);
        club.read();
        club.wager(2, 1000, 2);
        dueOrder("coins", club, 0, 1, 0, 3, 2);
        dueOrder("height", club, 1, 1, 3, 0, 2);
        dueOrder("needle", club, 2, 2, 0, 3, 1);
        dueOrder("readings won", club, 3, 1, 0, 2, 3);
        Check.thrown("24 measure below", ARGUMENT, () -> club.ranked(-1, 0));
        Check.thrown("24 measure above", ARGUMENT, () -> club.ranked(4, 0));
        Check.thrown("24 measure first", ARGUMENT, () -> club.ranked(4, 9));
        Check.thrown("24 place below", ELEMENT, () -> club.ranked(0, -1));
        Check.thrown("24 place above", ELEMENT, () -> club.ranked(0, 4));
        dueOrder("all as many", Clubs.of(5, 6, 7), 0, 0, 1, 2);
    }

    private static void dueOrder(String what, BarometerClub club, int measure, int... members) {
        for (int place = 0; place < members.length; place++) {
            due("24 " + what + " " + place, club.ranked(measure, place), members[place]);
        }
    }

    private static void promise25Weather() {
        BarometerClub club = Clubs.of(0);
        dueWeather(club, 1000, 0, 0, 0, 0, 0);
        club.day(-25);
        dueWeather(club, 975, -25, 1, 1, 1, 0);
        club.bottle(0);
        dueWeather(club, 975, -25, 0, 1, 1, 0);
        club.day(12);
        dueWeather(club, 987, 12, 0, 2, 1, 0);
        club.letOut(0);
        dueWeather(club, 972, -15, 0, 2, 1, 1);
        Check.thrown("25 below", ARGUMENT, () -> club.weather(-1));
        Check.thrown("25 above", ARGUMENT, () -> club.weather(6));
    }

    private static void dueWeather(BarometerClub club, int... numbers) {
        for (int what = 0; what < numbers.length; what++) {
            due("25 weather " + what, club.weather(what), numbers[what]);
        }
    }

    private static void promise26IsEven() {
        BarometerClub club = Clubs.of(0, 1, 2);
        club.wager(0, 1000, 9);
        club.tap(0);
        club.wager(1, 988, 3);
        club.move(2, 6);
        due("26 with a pot", club.isEven(), true);
        club.read();
        club.leave(2);
        due("26 with coins taken along", club.isEven(), true);
        club.undo();
        due("26 behind undo", club.isEven(), true);
        due("26 nobody", new BarometerClub().isEven(), true);
    }

    public static void main(String[] args) {
        promise12MemberOf();
        promises13And14Needle();
        promise15Off();
        promise16Owner();
        promises17To19Winners();
        promise20WouldWin();
        promise21ChangeFor();
        promise22BestGuess();
        promise23NearestFree();
        promise24Ranked();
        promise25Weather();
        promise26IsEven();
        Check.end();
    }
}
