/** Promises 34 to 39: means, accounts, undo, and the snapshot. */
public final class AccountsTest {
    private static final Class<ArithmeticException> ARITHMETIC = ArithmeticException.class;
    private static final Class<IllegalStateException> STATE = IllegalStateException.class;

    private static void due(String what, Object got, Object want) {
        Check.due(what, got, want);
    }

    private static void promise34MeanCoins() {
        Check.thrown("34 nobody", ARITHMETIC, () -> new BarometerClub().meanCoins());
        BarometerClub club = Clubs.of(0, 1, 2);
        due("34 all as many", club.meanCoins(), 50.0);
        club.wager(1, 900, 2);
        due("34 no whole number", club.meanCoins(), 148.0 / 3.0);
        club.leave(0);
        due("34 a half", club.meanCoins(), 49.0);
    }

    private static void promise35TappedShare() {
        BarometerClub club = Clubs.of(0, 1, 2, 3);
        Check.thrown("35 nobody has wagered", ARITHMETIC, club::tappedShare);
        club.wager(0, 900, 2);
        due("35 nobody has tapped", club.tappedShare(), 0.0f);
        club.wager(1, 900, 2);
        club.wager(2, 900, 2);
        club.tap(0);
        due("35 a third", club.tappedShare(), 1.0f / 3.0f);
        club.tap(1);
        due("35 two thirds", club.tappedShare(), 2.0f / 3.0f);
        club.tap(2);
        due("35 all", club.tappedShare(), 1.0f);
        club.read();
        Check.thrown("35 behind the reading", ARITHMETIC, club::tappedShare);
    }

    private static void promise36Account() {
        BarometerClub club = Clubs.of(0, 1, 2, 9);
        club.wager(0, 1000, 4);
        club.wager(1, 700, 3);
        club.tap(1);
        club.move(2, 4);
        club.exchange(0, 2);
        club.exchange(0, 2);
        dueAccounts(club, 4, 188, 12, 2, 0, 0, 5, 200, 0, 8, 0);
        club.append('r');
        club.leave(3);
        club.read();
        club.wager(1, 700, 1);
        dueAccounts(club, 3, 149, 1, 1, 1, 12, 5, 200, 50, 8, 1);
        club.join(7);
        dueAccounts(club, 4, 199, 1, 1, 1, 12, 5, 250, 50, 8, 1);
        Check.thrown("36 below", IllegalArgumentException.class, () -> club.account(-1));
        Check.thrown("36 above", IllegalArgumentException.class, () -> club.account(11));
    }

    private static void dueAccounts(BarometerClub club, int... numbers) {
        for (int what = 0; what < numbers.length; what++) {
            due("36 account " + what, club.account(what), numbers[what]);
        }
    }

    private static void promise37Undo() {
        BarometerClub club = new BarometerClub();
        Check.thrown("37 none", STATE, club::undo);
        club.join(3);
        club.join(5);
        due("37 one is left", club.undo(), 1);
        due("37 members", club.account(0), 1);
        due("37 coins brought", club.account(7), 50);
        due("37 none is left", club.undo(), 0);
        Check.thrown("37 none any more", STATE, club::undo);
        for (int day = 1; day <= 10; day++) {
            club.day(day);
        }
        due("37 eight are kept", club.account(9), 8);
        for (int left = 7; left >= 0; left--) {
            due("37 left", club.undo(), left);
            due("37 days", club.weather(3), left + 2);
            due("37 change", club.weather(1), left + 2);
        }
        Check.thrown("37 no more than eight", STATE, club::undo);
        due("37 pressure", club.weather(0), 1003);
    }

    private static void promise37Kinds() {
        BarometerClub club = Clubs.of(0, 5);
        club.day(-20);
        club.bottle(0);
        club.wager(0, 980, 5);
        club.wager(1, 980, 5);
        club.tap(1);
        club.letOut(0);
        club.read();
        due("37 after the reading", club.memberOf(0, 0) * 10 + club.memberOf(0, 6), 561);
        club.undo();
        due("37 read", club.memberOf(0, 0) * 10 + club.memberOf(0, 6), 450);
        due("37 read, wagers", club.account(3) * 100 + club.account(2), 211);
        due("37 read, tapped", club.memberOf(1, 4), 1);
        club.undo();
        due("37 letOut", club.weather(0) + club.memberOf(0, 5) + club.weather(5), 981);
        due("37 letOut, change", club.weather(1), -20);
        club.undo();
        due("37 tap", club.memberOf(1, 4) * 100 + club.memberOf(1, 0), 45);
        club.undo();
        due("37 wager", club.memberOf(1, 2) * 100 + club.memberOf(1, 0), -50);
        club.undo();
        club.undo();
        due("37 bottle", club.memberOf(0, 5) * 10 + club.weather(2), 1);
        club.leave(0);
        due("37 left", club.memberOf(0, 1), 5);
        club.undo();
        due("37 leave", club.memberOf(0, 1) * 10 + club.memberOf(1, 1), 5);
        club.move(0, 1);
        club.exchange(0, 1);
        club.undo();
        due("37 exchange", club.memberOf(0, 1) * 10 + club.memberOf(1, 1), 15);
        club.undo();
        due("37 move", club.memberOf(0, 1) * 100 + club.memberOf(0, 0), 50);
    }

    private static void promise37WhatStays() {
        BarometerClub club = Clubs.of(0);
        club.append('r');
        club.line(0);
        Check.thrown("37 a refused call", UnsupportedOperationException.class, () -> club.join(0));
        due("37 is not undone", club.account(9), 1);
        club.save();
        club.board();
        due("37 save and board are not undone", club.undo(), 0);
        due("37 text stays", club.account(10), 1);
        due("37 reason stays", club.reason(0), 3);
        due("37 line stays", club.character(0), '0');
        due("37 snapshot stays", club.restore(), 1);
    }

    private static void promises38And39Snapshot() {
        BarometerClub club = new BarometerClub();
        Check.thrown("39 no snapshot", STATE, club::restore);
        club.join(4);
        club.wager(0, 952, 3);
        due("38 members", club.save(), 1);
        club.join(5);
        club.day(-30);
        club.append('r');
        club.board();
        due("39 members", club.restore(), 1);
        due("39 pressure", club.weather(0), 1000);
        due("39 storms", club.weather(4), 0);
        due("39 brought", club.account(7), 50);
        due("39 wager", club.memberOf(0, 2), 952);
        due("39 nothing can be undone", club.account(9), 0);
        Check.thrown("39 nothing can be undone", STATE, club::undo);
        due("39 text stays", club.account(10), 1);
        due("39 line stays", club.character(5), '1');
        club.read();
        due("39 the snapshot is kept", club.restore(), 1);
        due("39 wager again", club.memberOf(0, 3), 3);
        club.tap(0);
        club.join(9);
        due("38 in place of the earlier one", club.save(), 2);
        due("38 history stays", club.account(9), 2);
        club.leave(1);
        due("39 the later one", club.restore(), 2);
        due("39 tapped", club.memberOf(0, 4), 1);
        club.day(1);
        due("39 undo anew", club.undo(), 0);
        due("39 back at the snapshot", club.weather(0), 1000);
        BarometerClub empty = new BarometerClub();
        due("38 nobody", empty.save(), 0);
        empty.join(3);
        due("39 nobody", empty.restore(), 0);
    }

    public static void main(String[] args) {
        promise34MeanCoins();
        promise35TappedShare();
        promise36Account();
        promise37Undo();
        promise37Kinds();
        promise37WhatStays();
        promises38And39Snapshot();
        Check.end();
    }
}
