/** Promises 1 to 11: a new object, and the calls that change the club. */
public final class ActionsTest {
    private static void due(String what, Object got, Object want) {
        Check.due(what, got, want);
    }

    private static void promise1NewObject() {
        BarometerClub club = new BarometerClub();
        int[] weather = {1000, 0, 0, 0, 0, 0};
        for (int what = 0; what < weather.length; what++) {
            due("1 weather " + what, club.weather(what), weather[what]);
        }
        for (int what = 0; what <= 10; what++) {
            due("1 account " + what, club.account(what), 0);
        }
        due("1 fault", club.faultPosition(), -1);
        Check.thrown("1 line is empty", IndexOutOfBoundsException.class, () -> club.character(0));
        BarometerClub other = Clubs.of(3);
        due("1 objects are apart", club.account(0), 0);
        due("1 other", other.account(0), 1);
    }

    private static void promise2Join() {
        BarometerClub club = new BarometerClub();
        due("2 first", club.join(9), 0);
        due("2 second", club.join(0), 1);
        int[] numbers = {50, 0, -1, 0, 0, 0, 0};
        for (int what = 0; what < numbers.length; what++) {
            due("2 number " + what, club.memberOf(1, what), numbers[what]);
        }
        due("2 brought", club.account(7), 100);
        Check.refused("2 below", club, 1, 0, 0, () -> club.join(-1));
        Check.refused("2 above", club, 1, 0, 0, () -> club.join(10));
        Check.refused("2 far above", club, 1, 0, 0, () -> club.join(Integer.MAX_VALUE));
        Check.refused("2 owned by 0", club, 3, 0, 0, () -> club.join(9));
        Check.refused("2 owned by 1", club, 3, 1, 0, () -> club.join(0));
        due("2 refused changes nothing", club.account(0), 2);
        due("2 refused can't be undone", club.account(9), 2);
        for (int height = 1; height <= 4; height++) {
            due("2 more", club.join(height), height + 1);
        }
        Check.refused("2 full", club, 2, 6, 0, () -> club.join(8));
        Check.refused("2 full, before owned", club, 2, 6, 0, () -> club.join(9));
        Check.refused("2 range before full", club, 1, 0, 0, () -> club.join(10));
    }

    private static void promise3Leave() {
        BarometerClub club = Clubs.of(4, 5, 6, 7);
        club.move(1, 8);
        club.day(-20);
        club.bottle(2);
        club.wager(2, 928, 4);
        club.tap(2);
        due("3 takes along", club.leave(1), 44);
        int[] numbers = {45, 6, 928, 4, 1, 1, 0};
        for (int what = 0; what < numbers.length; what++) {
            due("3 later one becomes 1 less " + what, club.memberOf(1, what), numbers[what]);
        }
        due("3 last height", club.memberOf(2, 1), 7);
        due("3 first stays", club.memberOf(0, 1), 4);
        due("3 count", club.account(0), 3);
        due("3 taken", club.account(8), 44);
        due("3 pot stays", club.account(2), 11);
        due("3 height is free", Check.answer(() -> club.owner(8)), java.util.NoSuchElementException.class);
        Check.refused("3 wagered", club, 7, 928, 0, () -> club.leave(1));
        Check.refused("3 nobody", club, 4, 3, 0, () -> club.leave(3));
        Check.refused("3 below", club, 4, 3, 0, () -> club.leave(-1));
        BarometerClub none = new BarometerClub();
        Check.refused("3 empty", none, 4, 0, 0, () -> none.leave(0));
        due("3 last leaves", club.leave(2), 50);
        due("3 comes anew", club.join(7), 2);
        due("3 anew has no readings", club.memberOf(2, 6), 0);
        due("3 anew has no bottles", club.memberOf(2, 5), 0);
        BarometerClub again = Clubs.of(0, 1);
        again.day(-20);
        again.bottle(1);
        again.wager(1, 968, 2);
        again.read();
        due("3 the bottle, and a reading won", again.memberOf(1, 5) * 10 + again.memberOf(1, 6), 11);
        due("3 they leave, too", again.leave(1), 50);
        again.join(1);
        due("3 who comes anew has neither", again.memberOf(1, 5) * 10 + again.memberOf(1, 6), 0);
    }

    private static void promise4Move() {
        BarometerClub club = Clubs.of(0, 9, 5);
        due("4 up", club.move(0, 4), 42);
        due("4 down", club.move(1, 8), 48);
        due("4 height", club.memberOf(0, 1), 4);
        due("4 pot", club.account(2), 10);
        due("4 paid", club.account(6), 10);
        Check.refused("4 own height", club, 3, 0, 0, () -> club.move(0, 4));
        Check.refused("4 owned", club, 3, 2, 0, () -> club.move(0, 5));
        Check.refused("4 range", club, 1, 0, 0, () -> club.move(0, 10));
        Check.refused("4 below range", club, 1, 0, 0, () -> club.move(0, -1));
        Check.refused("4 least height", club, 1, 0, 0, () -> club.move(0, Integer.MIN_VALUE));
        Check.refused("4 nobody first", club, 4, 3, 0, () -> club.move(3, 10));
        club.move(0, 0);
        club.move(0, 7);
        club.move(0, 0);
        due("4 six coins are left", club.memberOf(0, 0), 6);
        Check.refused("4 lacking 2", club, 5, 2, 0, () -> club.move(0, 4));
        Check.refused("4 lacking 8", club, 5, 8, 0, () -> club.move(0, 7));
        Check.refused("4 owned before coins", club, 3, 1, 0, () -> club.move(0, 8));
        due("4 all coins", club.move(0, 3), 0);
        Check.refused("4 lacking all", club, 5, 2, 0, () -> club.move(0, 4));
        club.wager(2, 940, 1);
        club.move(2, 6);
        due("4 wager stays", club.memberOf(2, 2), 940);
        due("4 needle shows another number", club.needle(2), 928);
    }

    private static void promise5Exchange() {
        BarometerClub club = Clubs.of(1, 8, 3);
        club.wager(0, 988, 2);
        due("5 apart", club.exchange(0, 1), 7);
        due("5 the one", club.memberOf(0, 1), 8);
        due("5 the other", club.memberOf(1, 1), 1);
        due("5 costs nothing", club.memberOf(0, 0), 48);
        due("5 wager stays", club.memberOf(0, 2), 988);
        due("5 the other has none", club.memberOf(1, 2), -1);
        due("5 not paid", club.account(6), 0);
        due("5 back", club.exchange(2, 0), 5);
        Check.refused("5 one", club, 4, 3, 0, () -> club.exchange(3, 0));
        Check.refused("5 other", club, 4, 3, 0, () -> club.exchange(0, -1));
        Check.refused("5 both are nobody", club, 4, 3, 0, () -> club.exchange(7, 7));
        Check.refused("5 both are one", club, 6, 2, 0, () -> club.exchange(2, 2));
    }

    private static void promise6Wager() {
        BarometerClub club = Clubs.of(0, 1, 2);
        due("6 pot", club.wager(0, 700, 1), 1);
        due("6 pot grows", club.wager(1, 1100, 9), 10);
        due("6 coins", club.memberOf(1, 0), 41);
        due("6 guess", club.memberOf(1, 2), 1100);
        due("6 stake", club.memberOf(1, 3), 9);
        due("6 not paid", club.account(6), 0);
        Check.refused("6 nobody first", club, 4, 3, 0, () -> club.wager(3, 699, 0));
        Check.refused("6 guess below", club, 1, 0, 0, () -> club.wager(2, 699, 5));
        Check.refused("6 guess above", club, 1, 0, 0, () -> club.wager(2, 1101, 5));
        Check.refused("6 stake below", club, 1, 0, 0, () -> club.wager(2, 900, 0));
        Check.refused("6 stake above", club, 1, 0, 0, () -> club.wager(2, 900, 10));
        Check.refused("6 range before wagered", club, 1, 0, 0, () -> club.wager(1, 900, 10));
        Check.refused("6 wagered", club, 7, 1100, 0, () -> club.wager(1, 900, 9));
        BarometerClub poor = Clubs.of(0, 9);
        poor.move(0, 8);
        poor.move(0, 0);
        poor.move(0, 7);
        due("6 four coins are left", poor.memberOf(0, 0), 4);
        Check.refused("6 lacking", poor, 5, 5, 0, () -> poor.wager(0, 900, 9));
        due("6 all coins", poor.wager(0, 900, 4), 50);
        Check.refused("6 wagered before coins", poor, 7, 900, 0, () -> poor.wager(0, 901, 9));
    }

    private static void promise7Tap() {
        BarometerClub club = Clubs.of(0, 1, 2, 3);
        club.wager(0, 1000, 5);
        due("7 no change yet", club.tap(0), 0);
        due("7 coins", club.memberOf(0, 0), 44);
        due("7 pot", club.account(2), 6);
        due("7 paid", club.account(6), 1);
        due("7 tapped", club.memberOf(0, 4), 1);
        club.day(1);
        club.wager(1, 1000, 3);
        due("7 above", club.tap(1), 1);
        club.day(-1);
        club.wager(2, 1000, 3);
        due("7 below", club.tap(2), -1);
        Check.refused("7 nobody", club, 4, 4, 0, () -> club.tap(4));
        Check.refused("7 not wagered", club, 8, 0, 0, () -> club.tap(3));
        Check.refused("7 tapped", club, 9, 5, 0, () -> club.tap(0));
        due("7 once until the reading", club.read(), 0);
        club.wager(0, 1000, 1);
        due("7 again behind the reading", club.tap(0), -1);
        BarometerClub poor = Clubs.of(0, 9);
        poor.move(0, 8);
        poor.move(0, 0);
        poor.move(0, 7);
        poor.wager(0, 900, 4);
        Check.refused("7 lacking", poor, 5, 1, 0, () -> poor.tap(0));
        due("7 refused changes nothing", poor.memberOf(0, 4), 0);
        poor.undo();
        poor.wager(0, 900, 3);
        due("7 for the only coin", poor.tap(0), 0);
        due("7 none is left", poor.memberOf(0, 0), 0);
    }

    private static void promise8Day() {
        BarometerClub club = new BarometerClub();
        due("8 up", club.day(40), 1040);
        due("8 down", club.day(-40), 1000);
        due("8 storm", club.weather(2), 1);
        due("8 a day with 0", club.day(0), 1000);
        due("8 it ends a storm", club.weather(2), 0);
        due("8 and is the latest change", club.weather(1), 0);
        due("8 no storm at -19", club.day(-19) + 10 * club.weather(2), 981);
        due("8 storm at -20", club.day(-20) + 10 * club.weather(2), 971);
        due("8 a new storm", club.day(-21), 940);
        due("8 days", club.weather(3), 6);
        due("8 storms", club.weather(4), 3);
        Check.refused("8 range above", club, 1, 0, 0, () -> club.day(41));
        Check.refused("8 range below", club, 1, 0, 0, () -> club.day(-41));
        Check.refused("8 least", club, 1, 0, 0, () -> club.day(Integer.MIN_VALUE));
        due("8 lowest pressure", club.day(-40), 900);
        Check.refused("8 below 900", club, 13, 899, 0, () -> club.day(-1));
        due("8 refused leaves the storm", club.weather(2), 1);
        for (int day = 0; day < 5; day++) {
            club.day(40);
        }
        Check.refused("8 above 1100", club, 13, 1101, 0, () -> club.day(1));
        Check.refused("8 far above", club, 13, 1140, 0, () -> club.day(40));
        due("8 highest stays", club.weather(0), 1100);
        due("8 no storm of a day up", club.weather(2), 0);
    }

    private static void promise9Bottle() {
        BarometerClub club = Clubs.of(0, 1);
        Check.refused("9 nobody", club, 4, 2, 0, () -> club.bottle(2));
        Check.refused("9 no storm yet", club, 10, 0, 0, () -> club.bottle(0));
        club.day(7);
        Check.refused("9 no storm", club, 10, 7, 0, () -> club.bottle(0));
        club.day(-20);
        due("9 first", club.bottle(0), 1);
        due("9 it is there no more", club.weather(2), 0);
        Check.refused("9 one member alone", club, 10, -20, 0, () -> club.bottle(1));
        due("9 storms so far stay", club.weather(4), 1);
        club.day(-20);
        due("9 second", club.bottle(0), 2);
        club.day(40);
        Check.refused("9 until the next day", club, 10, 40, 0, () -> club.bottle(1));
        club.day(-30);
        due("9 third", club.bottle(0), 3);
        Check.refused("9 no storm before 3 bottles", club, 10, -30, 0, () -> club.bottle(0));
        club.day(-21);
        Check.refused("9 three bottles", club, 11, 3, 0, () -> club.bottle(0));
        due("9 another member", club.bottle(1), 1);
        due("9 held", club.memberOf(0, 5), 3);
    }

    private static void promise10LetOut() {
        BarometerClub club = Clubs.of(0, 1);
        Check.refused("10 nobody", club, 4, 2, 0, () -> club.letOut(-1));
        Check.refused("10 no bottle", club, 12, 0, 0, () -> club.letOut(0));
        club.day(-20);
        club.bottle(0);
        club.day(-20);
        club.bottle(0);
        club.day(-20);
        due("10 let out", club.letOut(0), 925);
        due("10 latest change", club.weather(1), -15);
        due("10 ends the storm", club.weather(2), 0);
        due("10 no storm of its own", club.weather(4), 3);
        due("10 no day", club.weather(3), 3);
        due("10 let out so far", club.weather(5), 1);
        due("10 bottles", club.memberOf(0, 5), 1);
        club.day(-10);
        due("10 lowest", club.letOut(0), 900);
        club.day(20);
        club.day(-20);
        club.bottle(0);
        Check.refused("10 below 900", club, 13, 885, 0, () -> club.letOut(0));
        Check.refused("10 no bottle before pressure", club, 12, 0, 0, () -> club.letOut(1));
        due("10 refused keeps the bottle", club.memberOf(0, 5), 1);
    }

    private static void promise11Read() {
        BarometerClub club = Clubs.of(0, 1, 2, 3);
        Check.refused("11 nobody has wagered", club, 14, 0, 0, () -> club.read());
        club.wager(0, 999, 3);
        club.wager(1, 989, 3);
        club.wager(2, 970, 5);
        due("11 two are as near", club.read(), 2);
        due("11 share of the one", club.memberOf(0, 0), 52);
        due("11 share of the other", club.memberOf(1, 0), 52);
        due("11 the third", club.memberOf(2, 0), 45);
        due("11 left over", club.account(2), 1);
        due("11 won", club.account(5), 10);
        due("11 readings won", club.memberOf(0, 6) * 100 + club.memberOf(1, 6) * 10 + club.memberOf(2, 6), 110);
        due("11 nobody has wagered any more", club.account(3), 0);
        due("11 no stake", club.memberOf(0, 3), 0);
        Check.refused("11 the pot", club, 14, 1, 0, () -> club.read());
        club.wager(0, 1000, 2);
        club.wager(3, 700, 2);
        club.tap(0);
        due("11 a tapped reading wins nothing", club.read(), 1);
        due("11 the farther one", club.memberOf(3, 0), 54);
        due("11 nobody has tapped any more", club.memberOf(0, 4), 0);
        club.wager(1, 988, 2);
        club.tap(1);
        due("11 all tapped", club.read(), 0);
        due("11 the pot stays", club.account(2), 3);
        due("11 it is a reading", club.account(4), 3);
        club.wager(2, 976, 1);
        due("11 the pot is won later", club.read() * 100 + club.memberOf(2, 0), 148);
    }

    public static void main(String[] args) {
        promise1NewObject();
        promise2Join();
        promise3Leave();
        promise4Move();
        promise5Exchange();
        promise6Wager();
        promise7Tap();
        promise8Day();
        promise9Bottle();
        promise10LetOut();
        promise11Read();
        Check.end();
    }
}
