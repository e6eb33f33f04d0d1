/** The sentences of the promises 34 to 39: means, accounts, undo, and the snapshot. */
public final class AccountSentencesTest {
    private static final Class<ArithmeticException> ARITHMETIC = ArithmeticException.class;
    private static final Class<IllegalStateException> STATE = IllegalStateException.class;

    private static void due(String what, Object got, Object want) {
        Check.due(what, got, want);
    }

    @Sentence(promise = 34, value = "Returns the mean of the coins of the members: the sum divided by their number, "
            + "both as doubles.")
    static void meanCoins() {
        BarometerClub club = Clubs.of(0, 1, 2, 3, 4, 5);
        club.wager(0, 900, 1);
        due("299 coins of six", club.meanCoins(), 299.0 / 6.0);
        for (int sum = 298, count = 5; count >= 1; count--) {
            club.leave(count);
            sum = club.account(1);
            due(sum + " coins of " + count, club.meanCoins(), (double) sum / (double) count);
        }
        due("those in the pot are not counted", club.meanCoins(), 49.0);
    }

    @Sentence(promise = 34, value = "Returns the mean.")
    static void meanCoinsReturns() {
        BarometerClub club = Clubs.of(0);
        due("50", club.meanCoins(), 50.0);
        Clubs.drain(club, 0, 0);
        due("0", club.meanCoins(), 0.0);
        club.join(1);
        club.join(2);
        due("no float, and not rounded", club.meanCoins(), 100.0 / 3.0);
    }

    @Sentence(promise = 34, value = "Throws `ArithmeticException` if there are none")
    static void meanCoinsOfNobody() {
        BarometerClub club = new BarometerClub();
        Check.thrown("nobody has come", ARITHMETIC, club::meanCoins);
        club.join(0);
        due("one has", club.meanCoins(), 50.0);
        club.leave(0);
        Check.thrown("and has left", ARITHMETIC, club::meanCoins);
    }

    @Sentence(promise = 35, value = "Returns what part of those who have wagered has tapped, both numbers as floats.")
    static void tappedShare() {
        for (int wagered = 1; wagered <= 6; wagered++) {
            BarometerClub club = Clubs.of(0, 1, 2, 3, 4, 5);
            for (int member = 0; member < wagered; member++) {
                club.wager(member, 900, 1);
            }
            for (int tapped = 0; tapped <= wagered; tapped++) {
                due(tapped + " of " + wagered, club.tappedShare(), (float) tapped / (float) wagered);
                if (tapped < wagered) {
                    club.tap(tapped);
                }
            }
        }
    }

    @Sentence(promise = 35, value = "Returns what part of those who have wagered has tapped, both numbers as floats.")
    static void tappedShareBehindOneWhoLeft() {
        BarometerClub club = Clubs.of(0, 1, 2);
        club.wager(1, 900, 1);
        club.wager(2, 900, 1);
        club.tap(2);
        club.leave(0);
        due("one of two", club.tappedShare(), 0.5f);
        due("who has tapped", Clubs.all(club, 4), "0 1");
    }

    @Sentence(promise = 35, value = "Returns the part.")
    static void tappedShareReturns() {
        BarometerClub club = Clubs.of(0, 1);
        club.wager(0, 900, 1);
        due("none of it", club.tappedShare(), 0.0f);
        club.tap(0);
        due("all of it", club.tappedShare(), 1.0f);
        club.wager(1, 900, 1);
        due("a half", club.tappedShare(), 0.5f);
    }

    @Sentence(promise = 35, value = "Throws `ArithmeticException` if nobody has wagered")
    static void tappedShareOfNobody() {
        BarometerClub club = new BarometerClub();
        Check.thrown("nobody is there", ARITHMETIC, club::tappedShare);
        club.join(0);
        Check.thrown("nobody has wagered", ARITHMETIC, club::tappedShare);
        club.wager(0, 900, 1);
        club.tap(0);
        club.read();
        Check.thrown("nobody has wagered any more", ARITHMETIC, club::tappedShare);
    }

    private static String accounts(BarometerClub club) {
        StringBuilder numbers = new StringBuilder();
        for (int what = 0; what <= 10; what++) {
            numbers.append(what == 0 ? "" : " ").append(club.account(what));
        }
        return numbers.toString();
    }

    @Sentence(promise = 36, value = "Returns an account.")
    static void account() {
        due("at first", accounts(new BarometerClub()), "0 0 0 0 0 0 0 0 0 0 0");
        due("six members", accounts(Clubs.of(0, 1, 2, 3, 4, 5)), "6 300 0 0 0 0 0 300 0 6 0");
    }

    @Sentence(promise = 36, value = "- `what`: 0 for the members, 1 for the coins of all members, 2 for the coins in "
            + "the pot, 3 for those who have wagered, 4 for the readings so far, 5 for the coins won so far, 6 for "
            + "the coins paid for taps and moves so far, 7 for the coins brought so far, 8 for the coins taken along "
            + "so far, 9 for the changes that can be undone, 10 for the characters in the text buffer")
    static void accountWhat() {
        BarometerClub club = Clubs.of(0, 1, 2);
        club.wager(0, 1000, 9);
        due("a stake is not paid", accounts(club), "3 141 9 1 0 0 0 150 0 4 0");
        club.wager(1, 988, 2);
        club.tap(1);
        due("a tap is", accounts(club), "3 138 12 2 0 0 1 150 0 6 0");
        club.move(2, 9);
        due("a move is", accounts(club), "3 124 26 2 0 0 15 150 0 7 0");
        club.append('x');
        club.read();
        due("one wins all", accounts(club), "3 150 0 0 1 26 15 150 0 8 1");
        club.leave(1);
        due("47 coins are taken along", accounts(club), "2 103 0 0 1 26 15 150 47 8 1");
        club.append('1');
        due("two commands", Clubs.run(club, ";j5"), 2);
        due("one more left, one more came", accounts(club), "2 117 0 0 1 26 15 200 83 8 0");
        club.wager(0, 1000, 1);
        club.wager(1, 940, 2);
        club.read();
        due("won is the share of each, not what is left over", accounts(club), "2 116 1 0 2 28 15 200 83 8 0");
        club.undo();
        due("so far is undone, too", accounts(club), "2 114 3 2 1 26 15 200 83 7 0");
    }

    @Sentence(promise = 36, value = "Returns the account.")
    static void accountReturns() {
        BarometerClub club = Clubs.of(0);
        Clubs.drain(club, 0, 0);
        due("five readings that nobody won", accounts(club), "1 0 50 0 5 0 5 50 0 8 0");
    }

    @Sentence(promise = 36, value = "Throws `IllegalArgumentException` if what is not from 0 to 10")
    static void accountWhatElse() {
        BarometerClub club = Clubs.of(0);
        for (int what : new int[] {-1, 11, Integer.MIN_VALUE, Integer.MAX_VALUE}) {
            Check.thrown("what is " + what, IllegalArgumentException.class, () -> club.account(what));
        }
        due("the least and the greatest", club.account(0) * 10 + club.account(10), 10);
    }

    @Sentence(promise = 37, value = "Undoes the latest call that can be undone.")
    static void undo() {
        BarometerClub club = Clubs.of(0);
        club.day(-20);
        Clubs.run(club, "d+1;j5;w1=900/3");
        club.weather(0);
        Check.refused("a refused call is not undone", club, 3, 0, 0, () -> club.join(0));
        club.undo();
        due("three commands at once", Clubs.weather(club) + Clubs.lineOf(club, 0) + accounts(club),
                "980 -20 1 1 1 04:50@01 50 0 0 0 0 0 50 0 2 0");
        club.undo();
        due("a day", Clubs.weather(club), "1000 0 0 0 0 0");
        club.undo();
        due("who has come", accounts(club), "0 0 0 0 0 0 0 0 0 0 0");
    }

    @Sentence(promise = 37, value = "Undoes the latest call that can be undone.")
    static void undoOfOneWhoLeft() {
        BarometerClub club = Clubs.of(0, 1, 2);
        Clubs.giveBottles(club, 0, 2);
        club.wager(0, 1000, 1);
        club.wager(2, 976, 9);
        club.read();
        club.wager(2, 1100, 4);
        club.leave(0);
        due("the numbers become less", Clubs.all(club, 2), "-1 1100");
        club.undo();
        due("coins", Clubs.all(club, 0), "54 50 42");
        due("heights", Clubs.all(club, 1), "0 1 2");
        due("guesses", Clubs.all(club, 2), "-1 -1 1100");
        due("bottles", Clubs.all(club, 5), "2 0 0");
        due("readings won", Clubs.all(club, 6), "1 0 1");
    }

    @Sentence(promise = 37, value = "Returns the number of calls that can still be undone.")
    static void undoReturns() {
        BarometerClub club = new BarometerClub();
        for (int day = 0; day < 9; day++) {
            club.day(0);
        }
        for (int left = 7; left >= 0; left--) {
            due("left", club.undo(), left);
            due("account", club.account(9), left);
        }
        due("one day stays", club.weather(3), 1);
    }

    @Sentence(promise = 37, value = "Throws `IllegalStateException` if there is none")
    static void undoOfNone() {
        BarometerClub club = new BarometerClub();
        Check.thrown("a new object", STATE, club::undo);
        Check.refused("a refused call", club, 14, 0, 0, () -> club.read());
        Check.thrown("behind a refused call", STATE, club::undo);
        club.save();
        Check.thrown("behind save", STATE, club::undo);
        club.day(1);
        club.undo();
        Check.thrown("undo is not undone", STATE, club::undo);
        club.day(1);
        club.restore();
        Check.thrown("behind restore", STATE, club::undo);
    }

    @Sentence(promise = 38, value = "Saves all that can be undone, in place of an earlier snapshot.")
    static void save() {
        BarometerClub club = Clubs.of(3, 4);
        Clubs.giveBottles(club, 1, 1);
        club.wager(0, 964, 3);
        club.tap(0);
        club.wager(1, 900, 1);
        club.day(-20);
        String before = State.ofAllThatCanBeUndone(club);
        club.save();
        Clubs.run(club, "b0;r;d+9;o1;x0;j9;m0>0;s0&1;w0=800/8;t0");
        due("it is another club", State.ofAllThatCanBeUndone(club).equals(before), false);
        club.restore();
        due("all of it", State.ofAllThatCanBeUndone(club), before);
        club.leave(club.join(9));
        due("save changes nothing that can be undone", club.save() * 10 + club.account(9), 22);
        club.undo();
        club.undo();
        club.restore();
        due("the later one", club.account(8) * 10 + club.account(9), 500);
    }

    @Sentence(promise = 38, value = "Returns how many members there are.")
    static void saveReturns() {
        BarometerClub club = new BarometerClub();
        due("nobody", club.save(), 0);
        for (int height = 0; height < 6; height++) {
            club.join(height);
            due("so many", club.save(), height + 1);
        }
    }

    @Sentence(promise = 39, value = "Restores what was saved; the snapshot is kept.")
    static void restore() {
        BarometerClub club = Clubs.of(3, 4);
        club.wager(1, 900, 1);
        club.save();
        String before = State.ofAllThatCanBeUndone(club);
        for (int time = 0; time < 3; time++) {
            club.read();
            club.leave(0);
            club.day(20);
            club.restore();
            due("time " + time, State.ofAllThatCanBeUndone(club), before);
            due("nothing can be undone", club.account(9), 0);
        }
        club.restore();
        due("restored twice", State.ofAllThatCanBeUndone(club), before);
    }

    @Sentence(promise = 39, value = "Returns how many members there are.")
    static void restoreReturns() {
        for (int count = 0; count <= 6; count++) {
            BarometerClub club = new BarometerClub();
            for (int height = 0; height < count; height++) {
                club.join(height);
            }
            club.save();
            if (count > 0) {
                club.leave(0);
            } else {
                club.join(0);
            }
            due("so many", club.restore(), count);
        }
    }

    @Sentence(promise = 39, value = "Throws `IllegalStateException` if there is no snapshot")
    static void restoreOfNone() {
        BarometerClub club = Clubs.of(3);
        Check.thrown("no snapshot", STATE, club::restore);
        due("nothing happened", club.account(0) * 10 + club.account(9), 11);
        club.undo();
        Check.thrown("no snapshot of a club without members", STATE, club::restore);
        club.save();
        due("one of nobody", club.restore(), 0);
        Check.thrown("another object has none", STATE, () -> new BarometerClub().restore());
    }

    public static void main(String[] args) {
        Sentences.run(AccountSentencesTest.class);
    }
}
