/** The sentences of the promises 1 to 11: a new object, and the calls that change the club. */
public final class ActionSentencesTest {
    private static void due(String what, Object got, Object want) {
        Check.due(what, got, want);
    }

    private static int reasonOf(BarometerClub club, Check.Call call) {
        Check.thrown("it is refused", UnsupportedOperationException.class, call);
        return club.reason(0);
    }

    @Sentence(promise = 1, value = "Creates a club without members.")
    static void newObject() {
        BarometerClub club = new BarometerClub();
        for (int what = 0; what <= 10; what++) {
            due("account " + what, club.account(what), 0);
        }
        due("the weather", Clubs.weather(club), "1000 0 0 0 0 0");
        due("the board", Clubs.boardOf(club), "10:..........");
        due("winners", club.winners() + club.winnersAgain() + club.share() + club.wouldWin(40), 0);
        due("even", club.isEven(), true);
        due("the first one to come", club.join(0), 0);
        due("another object knows nothing of it", new BarometerClub().account(0), 0);
    }

    @Sentence(promise = 2, value = "Lets a member join.")
    static void join() {
        BarometerClub club = Clubs.of(7);
        due("coins, height, guess, stake, tapped, bottles, readings won", Clubs.lineOf(club, 0), "4:50@7");
        for (int what = 2; what <= 6; what++) {
            due("number " + what, club.memberOf(0, what), what == 2 ? -1 : 0);
        }
        due("coins brought", club.account(7), 50);
    }

    @Sentence(promise = 2, value = "Lets a member join.")
    static void joinAnew() {
        BarometerClub club = Clubs.of(0, 1, 2, 3, 4, 5);
        Clubs.giveBottles(club, 5, 2);
        club.wager(5, 900, 9);
        club.read();
        club.move(5, 9);
        club.leave(5);
        due("the number of the one who left", club.join(5), 5);
        int[] numbers = {50, 5, -1, 0, 0, 0, 0};
        for (int what = 0; what < numbers.length; what++) {
            due("number " + what, club.memberOf(5, what), numbers[what]);
        }
        due("coins brought", club.account(7), 350);
    }

    @Sentence(promise = 2, value = "Returns the number of the member.")
    static void joinReturns() {
        BarometerClub club = new BarometerClub();
        for (int member = 0; member < 6; member++) {
            due("number", club.join((member * 3 + 4) % 10), member);
        }
    }

    @Sentence(promise = 2, value = "Throws `UnsupportedOperationException` if it is refused for the reason 1, 2 or 3; "
            + "the reason is kept")
    static void joinRefused() {
        BarometerClub club = Clubs.of(0, 1, 2, 3, 4);
        for (int height : new int[] {-1, 10, Integer.MIN_VALUE, Integer.MAX_VALUE, 256}) {
            due("1 by " + height, reasonOf(club, () -> club.join(height)), 1);
        }
        due("3", reasonOf(club, () -> club.join(4)) * 10 + club.reason(1), 34);
        club.join(9);
        due("2", reasonOf(club, () -> club.join(5)) * 10 + club.reason(1), 26);
    }

    @Sentence(promise = 3, value = "Lets a member leave who has not wagered.")
    static void leave() {
        BarometerClub club = Clubs.of(0, 1, 2);
        club.wager(1, 900, 3);
        Clubs.giveBottles(club, 2, 1);
        due("before the one who has wagered", club.leave(0), 50);
        due("the wager goes along with the number", Clubs.lineOf(club, 0), "10:47@1=900/3");
        due("the bottles, too", Clubs.all(club, 5), "0 1");
        due("behind the one who has wagered", club.leave(1), 50);
        due("one is left", club.account(0), 1);
        due("the bottles are gone", club.memberOf(0, 5), 0);
    }

    @Sentence(promise = 3, value = "Returns how many coins the member takes along.")
    static void leaveReturns() {
        BarometerClub club = Clubs.of(0, 1);
        Clubs.drain(club, 0, 7);
        due("7", club.leave(0), 7);
        due("50", club.leave(0), 50);
        due("taken along so far", club.account(8), 57);
    }

    @Sentence(promise = 3, value = "Throws `UnsupportedOperationException` if it is refused for the reason 4 or 7; the "
            + "reason is kept")
    static void leaveRefused() {
        BarometerClub club = Clubs.of(0);
        due("4", reasonOf(club, () -> club.leave(1)), 4);
        due("4 below", reasonOf(club, () -> club.leave(-1)), 4);
        club.wager(0, 900, 1);
        due("7", reasonOf(club, () -> club.leave(0)) * 1000 + club.reason(1), 7900);
        club.read();
        due("behind the reading", club.leave(0), 50);
        due("4 with nobody", reasonOf(club, () -> club.leave(0)) * 10 + club.reason(1), 40);
    }

    @Sentence(promise = 4, value = "Moves a member to a height that nobody owns.")
    static void move() {
        BarometerClub club = Clubs.of(4, 5);
        club.move(0, 9);
        due("heights", Clubs.all(club, 1), "9 5");
        due("paid", club.account(6) * 100 + club.account(2), 1010);
        due("the height before is free", club.move(1, 4), 48);
        due("heights again", Clubs.all(club, 1), "9 4");
    }

    @Sentence(promise = 4, value = "Returns how many coins the member has then.")
    static void moveReturns() {
        BarometerClub club = Clubs.of(0, 9);
        Clubs.drain(club, 0, 2);
        due("the last coins", club.move(0, 1), 0);
        due("the other one", club.move(1, 8), 48);
    }

    @Sentence(promise = 4, value = "Throws `UnsupportedOperationException` if it is refused for the reason 4, 1, 3, "
            + "also if the member owns it, or 5; the reason is kept")
    static void moveRefused() {
        BarometerClub club = Clubs.of(3, 4);
        due("4", reasonOf(club, () -> club.move(2, 5)) * 10 + club.reason(1), 42);
        due("1 below", reasonOf(club, () -> club.move(1, -1)), 1);
        due("1 above", reasonOf(club, () -> club.move(1, 10)), 1);
        due("1 far below", reasonOf(club, () -> club.move(1, Integer.MIN_VALUE)), 1);
        due("3", reasonOf(club, () -> club.move(1, 3)) * 10 + club.reason(1), 30);
        due("3 by the member", reasonOf(club, () -> club.move(1, 4)) * 10 + club.reason(1), 31);
        Clubs.drain(club, 1, 5);
        due("5", reasonOf(club, () -> club.move(1, 7)) * 10 + club.reason(1), 51);
        due("4 coins of 5", club.move(1, 6), 1);
        due("5 by one coin", reasonOf(club, () -> club.move(1, 5)) * 10 + club.reason(1), 51);
    }

    @Sentence(promise = 5, value = "Lets two members exchange their heights.")
    static void exchange() {
        BarometerClub club = Clubs.of(0, 9, 4);
        club.exchange(0, 1);
        due("first and second", Clubs.all(club, 1), "9 0 4");
        club.exchange(2, 0);
        due("last and first", Clubs.all(club, 1), "4 0 9");
        due("coins", Clubs.all(club, 0), "50 50 50");
        due("owners", club.owner(4) * 100 + club.owner(0) * 10 + club.owner(9), 12);
    }

    @Sentence(promise = 5, value = "Returns by how much their heights are apart.")
    static void exchangeReturns() {
        BarometerClub club = Clubs.of(0, 9, 8);
        due("9", club.exchange(0, 1), 9);
        due("9 the other way", club.exchange(0, 1), 9);
        due("1", club.exchange(1, 2), 1);
        due("1 the other way", club.exchange(2, 1), 1);
    }

    @Sentence(promise = 5, value = "Throws `UnsupportedOperationException` if it is refused for the reason 4, for the "
            + "one, then for the other, or 6; the reason is kept")
    static void exchangeRefused() {
        BarometerClub club = Clubs.of(3, 4);
        due("4 for the one", reasonOf(club, () -> club.exchange(2, 1)) * 10 + club.reason(1), 42);
        due("4 for the one below", reasonOf(club, () -> club.exchange(-1, 1)), 4);
        due("4 for the other", reasonOf(club, () -> club.exchange(1, 2)) * 10 + club.reason(1), 42);
        due("4 for the other below", reasonOf(club, () -> club.exchange(1, -1)), 4);
        due("4 for both", reasonOf(club, () -> club.exchange(-1, -1)), 4);
        due("6", reasonOf(club, () -> club.exchange(0, 0)) * 10 + club.reason(1), 60);
        due("6 for the last", reasonOf(club, () -> club.exchange(1, 1)) * 10 + club.reason(1), 61);
        due("heights stay", Clubs.all(club, 1), "3 4");
    }

    @Sentence(promise = 6, value = "Lets a member wager.")
    static void wager() {
        BarometerClub club = Clubs.of(0, 1);
        club.wager(1, 700, 9);
        due("the one", Clubs.lineOf(club, 1), "10:41@1=700/9");
        due("the other", Clubs.lineOf(club, 0), "4:50@0");
        due("who have wagered", club.account(3), 1);
        due("it is not paid for taps and moves", club.account(6), 0);
    }

    @Sentence(promise = 6, value = "Returns what is in the pot then.")
    static void wagerReturns() {
        BarometerClub club = Clubs.of(0, 1, 2);
        club.move(2, 9);
        due("with the coins of a move", club.wager(0, 900, 1), 15);
        due("with another stake", club.wager(1, 900, 9), 24);
    }

    @Sentence(promise = 6, value = "Throws `UnsupportedOperationException` if it is refused for the reason 4, 1, 7 or "
            + "5; the reason is kept")
    static void wagerRefused() {
        BarometerClub club = Clubs.of(0);
        due("4", reasonOf(club, () -> club.wager(1, 900, 1)) * 10 + club.reason(1), 41);
        due("1 by a guess", reasonOf(club, () -> club.wager(0, 699, 1)), 1);
        due("1 by a stake", reasonOf(club, () -> club.wager(0, 700, 10)), 1);
        Clubs.drain(club, 0, 8);
        due("5", reasonOf(club, () -> club.wager(0, 700, 9)) * 10 + club.reason(1), 51);
        club.wager(0, 700, 8);
        due("all coins are wagered", club.memberOf(0, 0), 0);
        due("7", reasonOf(club, () -> club.wager(0, 701, 1)) * 1000 + club.reason(1), 7700);
    }

    @Sentence(promise = 7, value = "Lets a member tap the own glass.")
    static void tap() {
        BarometerClub club = Clubs.of(0, 1);
        club.wager(0, 900, 3);
        club.wager(1, 900, 3);
        club.tap(1);
        due("who has tapped", Clubs.all(club, 4), "0 1");
        due("coins", Clubs.all(club, 0), "47 46");
        due("pot and paid", club.account(2) * 10 + club.account(6), 71);
        due("the wager stays", Clubs.lineOf(club, 1), "11:46@1=900/3!");
    }

    @Sentence(promise = 7, value = "Returns 1 if the latest change was above 0, -1 if it was below 0, and 0 otherwise.")
    static void tapReturns() {
        int[] changes = {1, -1, 0, 40, -40};
        for (int change : changes) {
            BarometerClub club = Clubs.of(0);
            club.day(-change);
            club.wager(0, 900, 3);
            club.day(change);
            due("behind " + change, club.tap(0), Integer.signum(change));
        }
        BarometerClub club = Clubs.of(0);
        club.wager(0, 900, 3);
        due("without a day", club.tap(0), 0);
    }

    @Sentence(promise = 7, value = "Throws `UnsupportedOperationException` if it is refused for the reason 4, 8, 9 or "
            + "5; the reason is kept")
    static void tapRefused() {
        BarometerClub club = Clubs.of(0);
        due("4", reasonOf(club, () -> club.tap(1)) * 10 + club.reason(1), 41);
        due("4 below", reasonOf(club, () -> club.tap(-1)), 4);
        due("8", reasonOf(club, () -> club.tap(0)) * 10 + club.reason(1), 80);
        club.wager(0, 900, 7);
        club.tap(0);
        due("9", reasonOf(club, () -> club.tap(0)) * 10 + club.reason(1), 97);
        club.read();
        Clubs.drain(club, 0, 4);
        club.wager(0, 900, 4);
        due("5", reasonOf(club, () -> club.tap(0)) * 10 + club.reason(1), 51);
    }

    @Sentence(promise = 8, value = "Lets a day go by.")
    static void day() {
        BarometerClub club = new BarometerClub();
        club.day(-20);
        due("with a storm", Clubs.weather(club), "980 -20 1 1 1 0");
        club.day(-19);
        due("without a storm", Clubs.weather(club), "961 -19 0 2 1 0");
        club.day(40);
        due("up", Clubs.weather(club), "1001 40 0 3 1 0");
    }

    @Sentence(promise = 8, value = "Returns the pressure then.")
    static void dayReturns() {
        BarometerClub club = Clubs.atPressure(940);
        due("lowest", club.day(-40), 900);
        due("the same", club.day(0), 900);
        Clubs.bringTo(club, 1060);
        due("highest", club.day(40), 1100);
    }

    @Sentence(promise = 8, value = "Throws `UnsupportedOperationException` if it is refused for the reason 1 or 13; "
            + "the reason is kept")
    static void dayRefused() {
        BarometerClub club = Clubs.atPressure(939);
        due("1 above", reasonOf(club, () -> club.day(41)) * 10 + club.reason(1), 10);
        due("1 below", reasonOf(club, () -> club.day(-41)) * 10 + club.reason(1), 10);
        due("13 below", reasonOf(club, () -> club.day(-40)) * 10000 + club.reason(1), 130899);
        Clubs.bringTo(club, 1061);
        due("13 above", reasonOf(club, () -> club.day(40)) * 10000 + club.reason(1), 131101);
    }

    @Sentence(promise = 9, value = "Lets a member put the storm into a bottle.")
    static void bottle() {
        BarometerClub club = Clubs.of(0, 1);
        club.day(-20);
        club.bottle(1);
        due("bottles", Clubs.all(club, 5), "0 1");
        due("the weather", Clubs.weather(club), "980 -20 0 1 1 0");
        due("for nothing", Clubs.all(club, 0), "50 50");
    }

    @Sentence(promise = 9, value = "Returns how many bottles the member has then.")
    static void bottleReturns() {
        BarometerClub club = Clubs.of(0, 1);
        for (int bottles = 1; bottles <= 3; bottles++) {
            club.day(-20);
            due("bottles", club.bottle(0), bottles);
        }
        club.day(-20);
        due("the other one", club.bottle(1), 1);
    }

    @Sentence(promise = 9, value = "Throws `UnsupportedOperationException` if it is refused for the reason 4, 10 or "
            + "11; the reason is kept")
    static void bottleRefused() {
        BarometerClub club = Clubs.of(0);
        club.day(-20);
        due("4", reasonOf(club, () -> club.bottle(1)) * 10 + club.reason(1), 41);
        due("4 below", reasonOf(club, () -> club.bottle(-1)), 4);
        club.day(-19);
        due("10", reasonOf(club, () -> club.bottle(0)) * 100 + club.reason(1), 981);
        Clubs.giveBottles(club, 0, 3);
        club.day(-20);
        due("11", reasonOf(club, () -> club.bottle(0)) * 10 + club.reason(1), 113);
        due("the storm stays", club.weather(2), 1);
    }

    @Sentence(promise = 10, value = "Lets a member let a bottle out.")
    static void letOut() {
        BarometerClub club = Clubs.of(0, 1);
        Clubs.giveBottles(club, 1, 3);
        for (int left = 2; left >= 0; left--) {
            club.letOut(1);
            due("bottles left", Clubs.all(club, 5), "0 " + left);
        }
        due("the weather", Clubs.weather(club), "955 -15 0 6 3 3");
    }

    @Sentence(promise = 10, value = "Returns the pressure then.")
    static void letOutReturns() {
        BarometerClub club = Clubs.of(0);
        Clubs.giveBottles(club, 0, 2);
        due("985", club.letOut(0), 985);
        Clubs.bringTo(club, 915);
        due("the lowest", club.letOut(0), 900);
    }

    @Sentence(promise = 10, value = "Throws `UnsupportedOperationException` if it is refused for the reason 4, 12 or "
            + "13; the reason is kept")
    static void letOutRefused() {
        BarometerClub club = Clubs.of(0, 1);
        Clubs.giveBottles(club, 0, 1);
        due("4", reasonOf(club, () -> club.letOut(2)) * 10 + club.reason(1), 42);
        due("4 below", reasonOf(club, () -> club.letOut(-1)), 4);
        due("12", reasonOf(club, () -> club.letOut(1)) * 10 + club.reason(1), 120);
        Clubs.bringTo(club, 914);
        due("13", reasonOf(club, () -> club.letOut(0)) * 10000 + club.reason(1), 130899);
        due("the bottle stays", club.memberOf(0, 5), 1);
        Clubs.bringTo(club, 915);
        due("one higher", club.letOut(0), 900);
    }

    @Sentence(promise = 11, value = "Reads the needles.")
    static void read() {
        BarometerClub club = Clubs.of(0, 1, 2, 3);
        club.wager(0, 1003, 4);
        club.wager(1, 985, 5);
        club.wager(2, 973, 5);
        club.wager(3, 964, 5);
        club.tap(3);
        club.read();
        due("20 coins for three", Clubs.all(club, 0), "52 51 51 44");
        due("left over", club.account(2), 2);
        due("readings and coins won", club.account(4) * 100 + club.account(5), 118);
        due("readings won", Clubs.all(club, 6), "1 1 1 0");
        due("the weather stays", Clubs.weather(club), "1000 0 0 0 0 0");
    }

    @Sentence(promise = 11, value = "Returns how many members win.")
    static void readReturns() {
        for (int winners = 0; winners <= 6; winners++) {
            BarometerClub club = Clubs.of(0, 1, 2, 3, 4, 5);
            for (int member = 0; member < 6; member++) {
                club.wager(member, 1000 - 12 * member, 1);
                if (member >= winners) {
                    club.tap(member);
                }
            }
            due("so many", club.read(), winners);
        }
    }

    @Sentence(promise = 11, value = "Throws `UnsupportedOperationException` if it is refused for the reason 14; the "
            + "reason is kept")
    static void readRefused() {
        BarometerClub club = Clubs.of(0);
        club.move(0, 3);
        due("14", reasonOf(club, () -> club.read()) * 10 + club.reason(1), 146);
        club.wager(0, 900, 1);
        due("one has wagered", club.read(), 1);
        due("14 again", reasonOf(club, () -> club.read()) * 10 + club.reason(1), 140);
        due("one reading", club.account(4), 1);
    }

    public static void main(String[] args) {
        Sentences.run(ActionSentencesTest.class);
    }
}
