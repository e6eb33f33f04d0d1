import java.util.NoSuchElementException;

/** The sentences before the promises about members, pressure, wagers, readings, and moving, and the details. */
public final class TermsTest {
    private static final Class<IndexOutOfBoundsException> INDEX = IndexOutOfBoundsException.class;

    private static void due(String what, Object got, Object want) {
        Check.due(what, got, want);
    }

    @Sentence(promise = 0, value = "An object is used for at most 512 calls after it has been made; what later calls "
            + "answer is free.")
    static void the512thCallStillAnswers() {
        BarometerClub club = new BarometerClub();
        BarometerClub other = new BarometerClub();
        for (int call = 1; call <= 511; call++) {
            club.day(call % 2 == 0 ? -40 : 40);
            other.day(call % 2 == 0 ? -40 : 40);
        }
        due("days", club.weather(3), 511);
        due("undo", other.undo(), 7);
    }

    @Sentence(promise = 0, value = "An object is used for at most 512 calls after it has been made; what later calls "
            + "answer is free.")
    static void thousandCoinsComeTogetherWithin512Calls() {
        BarometerClub club = Clubs.of(0);
        for (int guest = 0; guest < 20; guest++) {
            club.join(9);
            club.move(1, 1);
            club.move(1, 9);
            club.move(1, 1);
            club.leave(1);
        }
        club.wager(0, 1000, 1);
        due("all of them win", club.read(), 1);
        due("the pot of 20 guests", club.memberOf(0, 0), 1010);
        club.wager(0, 1100, 9);
        club.tap(0);
        due("the longest line", Clubs.lineOf(club, 0), "14:1000@0=1100/9!");
        due("mean", club.meanCoins(), 1000.0);
        due("even", club.isEven(), true);
    }

    @Sentence(promise = 0, value = "A tapped reading wins nothing.")
    static void tappedReadingWinsNothing() {
        BarometerClub club = Clubs.of(0, 1);
        club.wager(0, 1000, 5);
        club.wager(1, 700, 1);
        club.tap(0);
        due("one wins", club.read(), 1);
        due("coins", Clubs.all(club, 0), "44 56");
        due("readings won", Clubs.all(club, 6), "0 1");
    }

    @Sentence(promise = 0, value = "Divisions are rounded down, unless something else is told.")
    static void divisionsAreRoundedDown() {
        BarometerClub club = Clubs.of(0, 1, 2);
        club.wager(0, 1000, 3);
        club.wager(1, 988, 4);
        club.wager(2, 976, 4);
        due("11 coins for three", club.share(), 3);
        club.read();
        due("coins", Clubs.all(club, 0), "50 49 49");
        due("left over", club.account(2), 2);
        due("the mean of 148 coins is told otherwise", club.meanCoins(), 148.0 / 3.0);
    }

    @Sentence(promise = 0, value = "At most 6 members are there, numbered from 0; when one leaves, the numbers of the "
            + "later ones become 1 less.")
    static void sixMembersAndNoSeventh() {
        BarometerClub club = new BarometerClub();
        for (int member = 0; member <= 5; member++) {
            due("number", club.join(9 - member), member);
        }
        Check.refused("a seventh", club, 2, 6, 0, () -> club.join(0));
        due("six are there", club.account(0), 6);
        due("the last one", club.memberOf(5, 1), 4);
        Check.thrown("no number 6", INDEX, () -> club.memberOf(6, 1));
        club.leave(5);
        due("a sixth again", club.join(0), 5);
    }

    @Sentence(promise = 0, value = "At most 6 members are there, numbered from 0; when one leaves, the numbers of the "
            + "later ones become 1 less.")
    static void laterNumbersBecomeOneLess() {
        BarometerClub club = Clubs.of(9, 8, 7, 6, 5, 4);
        club.leave(2);
        due("one between", Clubs.all(club, 1), "9 8 6 5 4");
        Check.thrown("the number 5 is nobody's", INDEX, () -> club.needle(5));
        club.leave(0);
        due("the first", Clubs.all(club, 1), "8 6 5 4");
        club.leave(3);
        due("the last", Clubs.all(club, 1), "8 6 5");
        club.leave(0);
        club.leave(0);
        club.leave(0);
        due("nobody is there", club.account(0), 0);
        Check.thrown("the number 0 is nobody's", INDEX, () -> club.needle(0));
        due("numbered from 0 again", club.join(3), 0);
    }

    @Sentence(promise = 0, value = "At most 6 members are there, numbered from 0; when one leaves, the numbers of the "
            + "later ones become 1 less.")
    static void nothingIsLeftUnderTheGreatestNumber() {
        for (int count = 2; count <= 6; count++) {
            BarometerClub club = new BarometerClub();
            for (int height = 0; height < count; height++) {
                club.join(height);
            }
            int last = count - 1;
            Clubs.giveBottles(club, last, 3);
            club.wager(last, 900, 4);
            club.leave(0);
            int set = 1 << last - 1;
            due("who would win", club.winners(), set);
            due("who would win again", club.winnersAgain(), set);
            due("who would win behind a day", club.wouldWin(1), set);
            due("share", club.share(), 4);
            due("who have wagered", club.account(3), 1);
            due("coins of all", club.account(1), 50 * last - 4);
            due("heights", club.owner(last) * 10 + club.account(0), 10 * (last - 1) + last);
            Check.refused("a bottle of nobody", club, 4, last, 0, () -> club.letOut(last));
            Check.refused("a tap of nobody", club, 4, last, 0, () -> club.tap(last));
            club.tap(last - 1);
            due("all of the one has tapped", club.tappedShare(), 1.0f);
            due("who comes has not", club.join(0) * 10 + club.memberOf(last, 4) + club.memberOf(last, 5), last * 10);
            club.wager(last, 900, 1);
            due("a half has tapped", club.tappedShare(), 0.5f);
        }
    }

    @Sentence(promise = 0, value = "Each comes with 50 coins, and owns a height from 0 to 9, which nobody else owns; "
            + "who leaves takes all own coins along.")
    static void heightsFromZeroToNine() {
        BarometerClub club = Clubs.of(0, 9);
        due("coins", Clubs.all(club, 0), "50 50");
        due("heights", Clubs.all(club, 1), "0 9");
        Check.refused("below 0", club, 1, 0, 0, () -> club.join(-1));
        Check.refused("above 9", club, 1, 0, 0, () -> club.join(10));
        Check.refused("move below 0", club, 1, 0, 0, () -> club.move(0, -1));
        Check.refused("move above 9", club, 1, 0, 0, () -> club.move(0, 10));
        due("move to 1 beside 0", club.move(0, 1), 48);
        due("move to 0", club.move(0, 0), 46);
        due("move to 8 beside 9", club.move(1, 8), 48);
        due("move to 9", club.move(1, 9), 46);
    }

    @Sentence(promise = 0, value = "Each comes with 50 coins, and owns a height from 0 to 9, which nobody else owns; "
            + "who leaves takes all own coins along.")
    static void nobodyElseOwnsTheHeight() {
        for (int height = 0; height <= 9; height++) {
            int owned = height;
            BarometerClub club = Clubs.of(height, (height + 1) % 10);
            Check.refused("join", club, 3, 0, 0, () -> club.join(owned));
            Check.refused("move", club, 3, 0, 0, () -> club.move(1, owned));
            due("heights stay", club.account(0) * 100 + club.memberOf(1, 1), 200 + (height + 1) % 10);
            club.leave(0);
            due("free when the owner left", club.join(owned), 1);
        }
    }

    @Sentence(promise = 0, value = "Each comes with 50 coins, and owns a height from 0 to 9, which nobody else owns; "
            + "who leaves takes all own coins along.")
    static void whoLeavesTakesAllCoins() {
        BarometerClub club = Clubs.of(0, 1, 2);
        Clubs.drain(club, 0, 0);
        club.wager(1, 900, 1);
        club.read();
        due("who has none", club.leave(0), 0);
        due("who has won", club.leave(0), 100);
        due("who has just come", club.leave(0), 50);
        due("taken along", club.account(8), 150);
        due("nothing is left", club.account(1) + club.account(2), 0);
    }

    @Sentence(promise = 0, value = "The pressure is from 900 to 1100, at first 1000.")
    static void pressureFrom900To1100() {
        BarometerClub club = new BarometerClub();
        due("at first", club.weather(0), 1000);
        Clubs.bringTo(club, 901);
        due("lowest", club.day(-1), 900);
        Check.refused("one lower", club, 13, 899, 0, () -> club.day(-1));
        Clubs.bringTo(club, 1099);
        due("highest", club.day(1), 1100);
        Check.refused("one higher", club, 13, 1101, 0, () -> club.day(1));
        due("it stays", club.weather(0), 1100);
    }

    @Sentence(promise = 0, value = "The needle of a member shows the pressure less 12 times the height.")
    static void needleShowsTwelveLessForEachHeight() {
        for (int pressure : new int[] {900, 1000, 1100}) {
            BarometerClub club = Clubs.atPressure(pressure, 0, 1, 9);
            due("height 0", club.needle(0), pressure);
            due("height 1", club.needle(1), pressure - 12);
            due("height 9", club.needle(2), pressure - 108);
        }
    }

    @Sentence(promise = 0, value = "In a day the pressure changes by -40 to 40.")
    static void dayChangesByFortyAtMost() {
        BarometerClub club = new BarometerClub();
        due("40", club.day(40), 1040);
        due("-40", club.day(-40), 1000);
        due("0", club.day(0), 1000);
        for (int change : new int[] {41, -41, 1000, Integer.MAX_VALUE, Integer.MIN_VALUE}) {
            Check.refused("a day with " + change, club, 1, 0, 0, () -> club.day(change));
        }
        due("three days", Clubs.weather(club), "1000 0 0 3 1 0");
    }

    @Sentence(promise = 0, value = "The latest change is that of the latest day, or of the latest bottle that was let "
            + "out since then, at first 0.")
    static void latestChangeOfDayOrBottle() {
        BarometerClub club = Clubs.of(0);
        due("at first", club.weather(1), 0);
        club.day(-40);
        due("of a day", club.weather(1), -40);
        club.bottle(0);
        due("into a bottle is no change", club.weather(1), -40);
        club.day(7);
        club.letOut(0);
        due("of a bottle", club.weather(1), -15);
        club.day(0);
        due("of a day since then", club.weather(1), 0);
    }

    @Sentence(promise = 0, value = "A day with a change of -20 or less brings a storm, which can be put into a bottle "
            + "by one member until the next day, or until a bottle is let out.")
    static void stormFromMinusTwentyOn() {
        int[] changes = {-40, -21, -20, -19, -1, 0, 19, 20, 21, 40};
        for (int change : changes) {
            BarometerClub club = Clubs.of(0);
            club.day(change);
            int storm = change <= -20 ? 1 : 0;
            due("a storm by " + change, club.weather(2) * 10 + club.weather(4), storm * 11);
            due("into a bottle by " + change, Check.answer(() -> club.bottle(0)),
                    storm == 1 ? 1 : UnsupportedOperationException.class);
        }
    }

    @Sentence(promise = 0, value = "A day with a change of -20 or less brings a storm, which can be put into a bottle "
            + "by one member until the next day, or until a bottle is let out.")
    static void stormForOneMemberUntilTheNextDayOrBottle() {
        BarometerClub club = Clubs.of(0, 1);
        club.day(-20);
        due("the one", club.bottle(1), 1);
        Check.refused("another one", club, 10, -20, 0, () -> club.bottle(0));
        Check.refused("the same one", club, 10, -20, 0, () -> club.bottle(1));
        club.day(-22);
        club.day(1);
        Check.refused("behind the next day", club, 10, 1, 0, () -> club.bottle(0));
        club.day(-23);
        club.letOut(1);
        Check.refused("behind a bottle that was let out", club, 10, -15, 0, () -> club.bottle(0));
        due("storms so far", club.weather(4), 3);
    }

    @Sentence(promise = 0, value = "A day with a change of -20 or less brings a storm, which can be put into a bottle "
            + "by one member until the next day, or until a bottle is let out.")
    static void stormStaysBehindAllElse() {
        BarometerClub club = Clubs.of(0, 1);
        club.day(-20);
        club.join(5);
        club.leave(2);
        club.move(0, 3);
        club.exchange(0, 1);
        club.wager(0, 900, 1);
        club.tap(0);
        club.read();
        Check.refused("no day", club, 1, 0, 0, () -> club.day(41));
        Check.refused("no bottle to let out", club, 12, 0, 0, () -> club.letOut(0));
        due("the storm is there", club.weather(2), 1);
        due("and goes into a bottle", club.bottle(0), 1);
    }

    @Sentence(promise = 0, value = "A member has at most 3 bottles.")
    static void threeBottlesAndNoFourth() {
        BarometerClub club = Clubs.of(0, 1);
        Clubs.giveBottles(club, 0, 2);
        club.day(-20);
        due("the third", club.bottle(0), 3);
        club.day(-20);
        Check.refused("a fourth", club, 11, 3, 0, () -> club.bottle(0));
        due("three stay", club.memberOf(0, 5), 3);
        club.letOut(0);
        club.day(-20);
        due("a third one again", club.bottle(0), 3);
    }

    @Sentence(promise = 0, value = "To let a bottle out changes the pressure by -15; it brings no storm.")
    static void bottleChangesThePressureByFifteen() {
        BarometerClub club = Clubs.of(0);
        Clubs.giveBottles(club, 0, 2);
        Clubs.bringTo(club, 915);
        due("to the lowest pressure", club.letOut(0), 900);
        due("no storm", club.weather(2) * 10 + club.weather(4), 2);
        Clubs.bringTo(club, 914);
        Check.refused("one too low", club, 13, 899, 0, () -> club.letOut(0));
        Clubs.bringTo(club, 1100);
        due("from the highest pressure", club.letOut(0), 1085);
    }

    @Sentence(promise = 0, value = "A member wagers on what the own needle will show at the next reading, a guess from "
            + "700 to 1100, with a stake from 1 to 9 coins, which goes into the pot at once.")
    static void guessesFrom700To1100() {
        BarometerClub club = Clubs.of(0, 1);
        Check.refused("below", club, 1, 0, 0, () -> club.wager(0, 699, 5));
        Check.refused("above", club, 1, 0, 0, () -> club.wager(0, 1101, 5));
        Check.refused("far below", club, 1, 0, 0, () -> club.wager(0, Integer.MIN_VALUE, 5));
        Check.refused("far above", club, 1, 0, 0, () -> club.wager(0, Integer.MAX_VALUE, 5));
        due("nobody has wagered", Clubs.all(club, 2), "-1 -1");
        club.wager(0, 700, 5);
        club.wager(1, 1100, 5);
        due("least and greatest", Clubs.all(club, 2), "700 1100");
    }

    @Sentence(promise = 0, value = "A member wagers on what the own needle will show at the next reading, a guess from "
            + "700 to 1100, with a stake from 1 to 9 coins, which goes into the pot at once.")
    static void stakesFrom1To9() {
        BarometerClub club = Clubs.of(0, 1);
        for (int stake : new int[] {0, 10, -1, Integer.MIN_VALUE, Integer.MAX_VALUE}) {
            Check.refused("a stake of " + stake, club, 1, 0, 0, () -> club.wager(0, 900, stake));
        }
        due("nothing is in the pot", club.account(2), 0);
        due("the least", club.wager(0, 900, 1), 1);
        due("the greatest", club.wager(1, 900, 9), 10);
        due("in the pot at once", club.account(2), 10);
        due("coins", Clubs.all(club, 0), "49 41");
    }

    @Sentence(promise = 0, value = "A member wagers on what the own needle will show at the next reading, a guess from "
            + "700 to 1100, with a stake from 1 to 9 coins, which goes into the pot at once.")
    static void theNeedleAtTheReadingCounts() {
        BarometerClub club = Clubs.of(0, 1);
        club.wager(0, 1000, 2);
        club.wager(1, 1000, 2);
        club.day(12);
        due("the needle of the other shows it now", club.winners(), 2);
        club.read();
        due("and wins", Clubs.all(club, 6), "0 1");
    }

    @Sentence(promise = 0, value = "Who has wagered can tap the own glass once until the reading, for a coin, which "
            + "goes into the pot, and learns how the latest change was.")
    static void tapOnceForACoin() {
        BarometerClub club = Clubs.of(0);
        Check.refused("who has not wagered", club, 8, 0, 0, () -> club.tap(0));
        club.day(1);
        club.wager(0, 900, 9);
        due("it was above 0", club.tap(0), 1);
        due("a coin", club.memberOf(0, 0) * 100 + club.account(2), 4010);
        Check.refused("twice", club, 9, 9, 0, () -> club.tap(0));
        club.day(2);
        Check.refused("a day later", club, 9, 9, 0, () -> club.tap(0));
        club.read();
        Check.refused("behind the reading", club, 8, 0, 0, () -> club.tap(0));
        club.wager(0, 900, 9);
        due("until the next reading once more", club.tap(0), 1);
    }

    @Sentence(promise = 0, value = "Who has wagered can tap the own glass once until the reading, for a coin, which "
            + "goes into the pot, and learns how the latest change was.")
    static void learnsHowTheLatestChangeWas() {
        int[] changes = {-40, -1, 0, 1, 40};
        for (int change : changes) {
            BarometerClub club = Clubs.of(0);
            club.wager(0, 900, 1);
            club.day(change);
            due("a day with " + change, club.tap(0), Integer.signum(change));
        }
        BarometerClub club = Clubs.of(0);
        Clubs.giveBottles(club, 0, 1);
        club.wager(0, 900, 1);
        club.letOut(0);
        due("of a bottle", club.tap(0), -1);
    }

    @Sentence(promise = 0, value = "Who has wagered can tap the own glass once until the reading, for a coin, which "
            + "goes into the pot, and learns how the latest change was.")
    static void tapForTheOnlyCoin() {
        BarometerClub club = Clubs.of(0);
        Clubs.drain(club, 0, 3);
        club.wager(0, 900, 2);
        due("the only coin", club.tap(0), 0);
        due("no coin is left", club.memberOf(0, 0), 0);
        club.undo();
        club.undo();
        club.wager(0, 900, 3);
        Check.refused("without a coin", club, 5, 1, 0, () -> club.tap(0));
    }

    @Sentence(promise = 0, value = "At a reading, those win who did not tap, and whose guess is the nearest to their "
            + "needle, all of them who are as near; the pot is shared by them evenly, and what is left over stays in "
            + "the pot.")
    static void sixAreAsNearAndShare() {
        BarometerClub club = Clubs.of(0, 1, 2, 3, 4, 5);
        for (int member = 0; member < 6; member++) {
            int away = member % 2 == 0 ? 7 : -7;
            club.wager(member, 1000 - 12 * member + away, 9);
        }
        club.move(5, 6);
        club.move(5, 5);
        due("all of them", club.winners(), 63);
        due("six win", club.read(), 6);
        due("58 coins for six", Clubs.all(club, 0), "50 50 50 50 50 46");
        due("4 are left over", club.account(2), 4);
        club.wager(0, 900, 1);
        due("and are won later", club.read() * 100 + club.memberOf(0, 0), 154);
        due("nothing is left over", club.account(2), 0);
    }

    @Sentence(promise = 0, value = "At a reading, those win who did not tap, and whose guess is the nearest to their "
            + "needle, all of them who are as near; the pot is shared by them evenly, and what is left over stays in "
            + "the pot.")
    static void oneNearerWinsAlone() {
        BarometerClub club = Clubs.of(0, 1, 2);
        club.wager(0, 1010, 3);
        club.wager(1, 988 - 9, 3);
        club.wager(2, 976 + 10, 3);
        due("by one nearer", club.read(), 1);
        due("all of the pot", Clubs.all(club, 0), "47 56 47");
        due("nothing is left over", club.account(2), 0);
    }

    @Sentence(promise = 0, value = "If all tapped, nobody wins, and the pot stays.")
    static void allTapped() {
        BarometerClub club = Clubs.of(0, 1, 2);
        club.wager(0, 1000, 3);
        club.wager(1, 988, 4);
        club.tap(0);
        club.tap(1);
        due("nobody wins, though one has not wagered", club.read(), 0);
        due("the pot", club.account(2), 9);
        due("coins", Clubs.all(club, 0), "46 45 50");
        due("readings won", Clubs.all(club, 6), "0 0 0");
        due("coins won", club.account(5), 0);
    }

    @Sentence(promise = 0, value = "Then nobody has wagered or tapped any more.")
    static void nobodyHasWageredOrTappedBehindAReading() {
        BarometerClub club = Clubs.of(0, 1, 2, 3, 4, 5);
        for (int member = 0; member < 6; member++) {
            club.wager(member, 800, 1);
            club.tap(member);
        }
        due("nobody wins", club.read(), 0);
        due("guesses", Clubs.all(club, 2), "-1 -1 -1 -1 -1 -1");
        due("stakes", Clubs.all(club, 3), "0 0 0 0 0 0");
        due("tapped", Clubs.all(club, 4), "0 0 0 0 0 0");
        club.wager(5, 800, 2);
        due("one wins", club.read(), 1);
        due("has not wagered, too", club.memberOf(5, 2) * 10 + club.memberOf(5, 3), -10);
        Check.refused("a reading once more", club, 14, 0, 0, () -> club.read());
    }

    @Sentence(promise = 0, value = "To move to another height costs 2 coins for each height between, the new one "
            + "included, which go into the pot.")
    static void moveCostsTwoCoinsForEachHeight() {
        for (int height = 0; height <= 9; height++) {
            if (height != 4) {
                BarometerClub club = Clubs.of(4);
                int cost = 2 * Math.abs(height - 4);
                due("coins behind a move to " + height, club.move(0, height), 50 - cost);
                due("the pot", club.account(2), cost);
            }
        }
        BarometerClub club = Clubs.of(0, 5);
        due("over an owned height, the farthest way up", club.move(0, 9), 32);
        due("the farthest way down", club.move(0, 0), 14);
        Check.refused("18 coins are too many", club, 5, 4, 0, () -> club.move(0, 9));
        due("14 coins are enough", club.move(0, 7), 0);
        Check.refused("2 coins are too many now", club, 5, 2, 0, () -> club.move(0, 6));
    }

    @Sentence(promise = 0, value = "Two members can exchange their heights for nothing.")
    static void exchangeForNothing() {
        BarometerClub club = Clubs.of(0, 9);
        Clubs.drain(club, 0, 0);
        int pot = club.account(2);
        int paid = club.account(6);
        due("without a coin", club.exchange(0, 1), 9);
        due("coins", Clubs.all(club, 0), "0 50");
        due("heights", Clubs.all(club, 1), "9 0");
        due("pot and paid stay", club.account(2) == pot && club.account(6) == paid, true);
    }

    @Sentence(promise = 0, value = "A day with the change 0 is a day, too, and ends a storm.")
    static void dayWithTheChangeZero() {
        BarometerClub club = Clubs.of(0);
        club.day(-20);
        due("the pressure", club.day(0), 980);
        due("the weather", Clubs.weather(club), "980 0 0 2 1 0");
        Check.refused("the storm is over", club, 10, 0, 0, () -> club.bottle(0));
        club.undo();
        due("it can be undone", Clubs.weather(club), "980 -20 1 1 1 0");
    }

    @Sentence(promise = 0, value = "Who moves, or exchanges heights, has wagered on as before, but the needle shows "
            + "another number.")
    static void wagerStaysWithWhoMoves() {
        BarometerClub club = Clubs.of(0, 9);
        club.wager(0, 900, 3);
        club.tap(0);
        club.move(0, 2);
        due("behind a move", Clubs.lineOf(club, 0), "11:42@2=900/3!");
        due("the needle", club.needle(0) * 1000 + club.off(0), 976076);
        club.exchange(1, 0);
        due("behind an exchange", Clubs.lineOf(club, 0), "11:42@9=900/3!");
        due("the needle again", club.needle(0) * 1000 + club.off(0), 892008);
        due("the other has not wagered", Clubs.lineOf(club, 1), "4:50@2");
    }

    @Sentence(promise = 0, value = "A storm that is in a bottle is there no more.")
    static void stormInABottleIsThereNoMore() {
        BarometerClub club = Clubs.of(0);
        club.day(-20);
        club.bottle(0);
        due("the weather", Clubs.weather(club), "980 -20 0 1 1 0");
        Check.refused("not twice", club, 10, -20, 0, () -> club.bottle(0));
        club.letOut(0);
        due("let out it is no storm", Clubs.weather(club), "965 -15 0 1 1 1");
    }

    @Sentence(promise = 0, value = "The pot stays from one reading to the next one as it is, whoever leaves.")
    static void potStaysWhoeverLeaves() {
        BarometerClub club = Clubs.of(0, 1, 2);
        club.wager(0, 1000, 2);
        club.tap(0);
        club.move(1, 5);
        club.read();
        due("behind a reading", club.account(2), 11);
        club.leave(0);
        club.leave(0);
        due("two have left", club.account(2), 11);
        club.leave(0);
        due("all have left", club.account(2), 11);
        Check.refused("nobody is there", club, 14, 11, 0, () -> club.read());
        club.join(4);
        club.wager(0, 700, 1);
        due("who comes anew can win it", club.read() * 100 + club.memberOf(0, 0), 161);
    }

    @Sentence(promise = 0, value = "A storm behind a day with a storm is a new one.")
    static void stormBehindAStormIsNew() {
        BarometerClub club = Clubs.of(0);
        club.day(-20);
        club.bottle(0);
        club.day(-20);
        due("two storms", Clubs.weather(club), "960 -20 1 2 2 0");
        due("the new one goes into a bottle", club.bottle(0), 2);
        club.day(-20);
        club.day(-20);
        due("four storms", Clubs.weather(club), "920 -20 1 4 4 0");
        due("but one that can be put into a bottle", club.bottle(0), 3);
        Check.refused("and no other one", club, 10, -20, 0, () -> club.bottle(0));
    }

    @Sentence(promise = 0, value = "Who is the nearest is found among those who did not tap.")
    static void nearestAmongThoseWhoDidNotTap() {
        BarometerClub club = Clubs.of(0, 1, 2);
        club.wager(0, 1000, 1);
        club.wager(1, 1000, 1);
        club.wager(2, 700, 1);
        club.tap(0);
        due("the one who is nearest tapped", club.winners(), 2);
        due("again", club.winnersAgain(), 2);
        due("behind a day", club.wouldWin(40), 2);
        club.tap(1);
        due("two tapped", club.winners(), 4);
        due("again", club.winnersAgain(), 4);
        due("wins alone by any change", club.changeFor(2), 0);
        due("one wins", club.read() * 10 + club.memberOf(2, 6), 11);
    }

    @Sentence(promise = 0, value = "A reading that nobody wins is a reading, too.")
    static void readingThatNobodyWins() {
        BarometerClub club = Clubs.of(0);
        club.wager(0, 1000, 1);
        club.tap(0);
        due("nobody wins", club.read(), 0);
        due("a reading", club.account(4), 1);
        due("none that was won", club.memberOf(0, 6), 0);
        club.undo();
        due("it can be undone", club.account(4) * 10 + club.memberOf(0, 4), 1);
    }

    @Sentence(promise = 0, value = "Who has tapped would win by no change.")
    static void whoHasTappedWouldWinByNoChange() {
        BarometerClub club = Clubs.of(0, 1);
        club.wager(0, 1000, 1);
        due("not yet tapped", club.changeFor(0), 0);
        club.tap(0);
        Check.thrown("tapped alone", NoSuchElementException.class, () -> club.changeFor(0));
        club.wager(1, 700, 1);
        Check.thrown("tapped, and nearer", NoSuchElementException.class, () -> club.changeFor(0));
        for (int change = -40; change <= 40; change++) {
            due("behind a day with " + change, club.wouldWin(change), 2);
        }
    }

    public static void main(String[] args) {
        Sentences.run(TermsTest.class);
    }
}
