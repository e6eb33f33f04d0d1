import java.util.NoSuchElementException;

/** The sentences of the promises 12 to 26: members, needles, who would win, orders, and the weather. */
public final class QuestionSentencesTest {
    private static final Class<IndexOutOfBoundsException> INDEX = IndexOutOfBoundsException.class;
    private static final Class<IllegalArgumentException> ARGUMENT = IllegalArgumentException.class;
    private static final Class<NoSuchElementException> ELEMENT = NoSuchElementException.class;

    private interface Question {
        Object of(BarometerClub club, int number);
    }

    private static void due(String what, Object got, Object want) {
        Check.due(what, got, want);
    }

    /** The numbers just outside of what is allowed, and the farthest ones. */
    private static void dueThrownOutside(int least, int most, Class<? extends RuntimeException> want,
            BarometerClub club, Question question) {
        for (int number : new int[] {least - 1, most + 1, Integer.MIN_VALUE, Integer.MAX_VALUE}) {
            Check.thrown("asked for " + number, want, () -> question.of(club, number));
        }
        for (int number = least; number <= most; number++) {
            int inside = number;
            Object answer = Check.answer(() -> question.of(club, inside));
            due("asked for " + number + " it does not throw so", answer.equals(want), false);
        }
    }

    /** With no members, with three, and with six of them, and when one has left. */
    private static void dueThrownForStrangers(Question question) {
        BarometerClub club = new BarometerClub();
        dueThrownOutside(0, -1, INDEX, club, question);
        for (int height = 0; height < 3; height++) {
            club.join(height);
        }
        dueThrownOutside(0, 2, INDEX, club, question);
        for (int height = 3; height < 6; height++) {
            club.join(height);
        }
        dueThrownOutside(0, 5, INDEX, club, question);
        club.leave(0);
        dueThrownOutside(0, 4, INDEX, club, question);
    }

    @Sentence(promise = 12, value = "Returns a number of a member.")
    static void memberOf() {
        BarometerClub club = Clubs.of(0, 1, 2, 3, 4, 5);
        club.move(5, 9);
        club.wager(0, 700, 1);
        due("coins", Clubs.all(club, 0), "49 50 50 50 50 42");
        due("heights", Clubs.all(club, 1), "0 1 2 3 4 9");
        due("guesses", Clubs.all(club, 2), "700 -1 -1 -1 -1 -1");
    }

    @Sentence(promise = 12, value = "- `what`: 0 for the coins, 1 for the height, 2 for the guess, -1 for none, 3 for "
            + "the stake, 0 for none, 4 for 1 if the member has tapped, otherwise 0, 5 for the bottles, 6 for the "
            + "readings won so far")
    static void memberOfWhat() {
        BarometerClub club = Clubs.of(8, 3);
        int[] numbers = {50, 3, -1, 0, 0, 0, 0};
        dueNumbers("at first", club, numbers);
        Clubs.giveBottles(club, 1, 3);
        club.wager(1, 964, 9);
        dueNumbers("wagered", club, new int[] {41, 3, 964, 9, 0, 3, 0});
        club.read();
        dueNumbers("won", club, new int[] {50, 3, -1, 0, 0, 3, 1});
        club.wager(1, 1100, 1);
        club.tap(1);
        dueNumbers("tapped", club, new int[] {48, 3, 1100, 1, 1, 3, 1});
        club.read();
        dueNumbers("not won", club, new int[] {48, 3, -1, 0, 0, 3, 1});
    }

    private static void dueNumbers(String when, BarometerClub club, int[] numbers) {
        for (int what = 0; what < numbers.length; what++) {
            due("number " + what + " " + when, club.memberOf(1, what), numbers[what]);
        }
    }

    @Sentence(promise = 12, value = "Returns the number.")
    static void memberOfReturns() {
        BarometerClub club = Clubs.of(9);
        due("coins", club.memberOf(0, 0), 50);
        due("height", club.memberOf(0, 1), 9);
    }

    @Sentence(promise = 12, value = "Throws `IndexOutOfBoundsException` if there is no such member")
    static void memberOfStrangers() {
        for (int what = 0; what <= 6; what++) {
            int number = what;
            dueThrownForStrangers((club, member) -> club.memberOf(member, number));
        }
    }

    @Sentence(promise = 12, value = "Throws `IllegalArgumentException` if what is not from 0 to 6")
    static void memberOfWhatElse() {
        dueThrownOutside(0, 6, ARGUMENT, Clubs.of(3), (club, what) -> club.memberOf(0, what));
    }

    @Sentence(promise = 13, value = "Returns what the needle of a member shows: by the height at once.")
    static void needle() {
        for (int height = 0; height <= 9; height++) {
            due("at height " + height, Clubs.of(height).needle(0), 1000 - 12 * height);
        }
    }

    @Sentence(promise = 13, value = "Returns what it shows.")
    static void needleReturns() {
        due("the lowest", Clubs.atPressure(900, 9).needle(0), 792);
        due("the highest", Clubs.atPressure(1100, 0).needle(0), 1100);
    }

    @Sentence(promise = 13, value = "Throws `IndexOutOfBoundsException` if there is no such member")
    static void needleOfStrangers() {
        dueThrownForStrangers((club, member) -> club.needle(member));
    }

    @Sentence(promise = 14, value = "Returns the same by a second way: height by height.")
    static void needleAgain() {
        for (int height = 0; height <= 9; height++) {
            BarometerClub club = Clubs.of(height);
            due("at height " + height, club.needleAgain(0), 1000 - 12 * height);
            club.move(0, 9 - height);
            due("moved from " + height, club.needleAgain(0), club.needle(0));
        }
    }

    @Sentence(promise = 14, value = "Returns what it shows.")
    static void needleAgainReturns() {
        due("the lowest", Clubs.atPressure(900, 9).needleAgain(0), 792);
        due("the highest", Clubs.atPressure(1100, 0).needleAgain(0), 1100);
    }

    @Sentence(promise = 14, value = "Throws `IndexOutOfBoundsException` if there is no such member")
    static void needleAgainOfStrangers() {
        dueThrownForStrangers((club, member) -> club.needleAgain(member));
    }

    @Sentence(promise = 15, value = "Returns how far the guess of a member is from what the needle shows now.")
    static void off() {
        BarometerClub club = Clubs.of(0, 9);
        club.wager(0, 1000, 1);
        due("not at all", club.off(0), 0);
        club.day(1);
        due("one below", club.off(0), 1);
        club.day(-2);
        due("one above", club.off(0), 1);
        club.tap(0);
        due("who has tapped, too", club.off(0), 1);
        club.exchange(0, 1);
        due("at another height now", club.off(0), 109);
    }

    @Sentence(promise = 15, value = "Returns how far.")
    static void offReturns() {
        BarometerClub high = Clubs.atPressure(1100, 0);
        high.wager(0, 700, 1);
        due("the farthest below", high.off(0), 400);
        BarometerClub low = Clubs.atPressure(900, 9);
        low.wager(0, 1100, 1);
        due("the farthest above", low.off(0), 308);
    }

    @Sentence(promise = 15, value = "Throws `IndexOutOfBoundsException` if there is no such member")
    static void offOfStrangers() {
        dueThrownForStrangers((club, member) -> club.off(member));
    }

    @Sentence(promise = 15, value = "Throws `NoSuchElementException` if the member has not wagered")
    static void offNotWagered() {
        BarometerClub club = Clubs.of(0, 1);
        Check.thrown("nobody has", ELEMENT, () -> club.off(0));
        club.wager(1, 700, 1);
        Check.thrown("another one has", ELEMENT, () -> club.off(0));
        due("the one who has", club.off(1), 288);
        club.read();
        Check.thrown("behind the reading", ELEMENT, () -> club.off(1));
        club.undo();
        club.undo();
        Check.thrown("behind undo", ELEMENT, () -> club.off(1));
    }

    @Sentence(promise = 16, value = "Returns who owns a height.")
    static void owner() {
        BarometerClub club = Clubs.of(9, 0, 5, 4, 1, 8);
        int[] owners = {1, 4, -1, -1, 3, 2, -1, -1, 5, 0};
        for (int height = 0; height <= 9; height++) {
            int asked = height;
            due("height " + height, Check.answer(() -> club.owner(asked)),
                    owners[height] < 0 ? ELEMENT : (Object) owners[height]);
        }
    }

    @Sentence(promise = 16, value = "Returns the member.")
    static void ownerReturns() {
        BarometerClub club = Clubs.of(9, 0);
        club.exchange(0, 1);
        due("behind an exchange", club.owner(9), 1);
        club.leave(0);
        due("behind one who left", club.owner(9), 0);
        club.move(0, 3);
        due("behind a move", club.owner(3), 0);
    }

    @Sentence(promise = 16, value = "Throws `IllegalArgumentException` if there is no such height")
    static void ownerOfNoHeight() {
        dueThrownOutside(0, 9, ARGUMENT, Clubs.of(0, 9), (club, height) -> club.owner(height));
        dueThrownOutside(0, 9, ARGUMENT, new BarometerClub(), (club, height) -> club.owner(height));
    }

    @Sentence(promise = 16, value = "Throws `NoSuchElementException` if nobody owns it")
    static void ownerOfFreeHeight() {
        BarometerClub club = Clubs.of(0, 9);
        club.move(0, 1);
        Check.thrown("who had it has moved", ELEMENT, () -> club.owner(0));
        club.leave(1);
        Check.thrown("who had it has left", ELEMENT, () -> club.owner(9));
        due("one that is owned", club.owner(1), 0);
    }

    @Sentence(promise = 17, value = "Returns who would win if the needles were read now: member by member.")
    static void winners() {
        BarometerClub club = Clubs.of(0, 1, 2);
        due("nobody has wagered", club.winners(), 0);
        club.wager(2, 700, 1);
        due("the only one", club.winners(), 4);
        club.wager(1, 1000, 1);
        due("a nearer one before", club.winners(), 2);
        club.wager(0, 1013, 1);
        due("one less near", club.winners(), 2);
        club.day(1);
        due("now a later one is less near", club.winners(), 2);
        club.day(12);
        due("now the first one", club.winners(), 1);
        due("a question changes nothing", club.account(3), 3);
    }

    @Sentence(promise = 17, value = "Returns the set of them, bit k for the member k.")
    static void winnersReturns() {
        for (int set = 0; set < 64; set++) {
            BarometerClub club = clubOfWinners(set);
            due("set " + set, club.winners(), set);
        }
    }

    /** Those in the set are as near as can be, on one side or the other; the others tapped, or are farther off. */
    private static BarometerClub clubOfWinners(int set) {
        BarometerClub club = Clubs.of(5, 4, 3, 2, 1, 0);
        for (int member = 0; member < 6; member++) {
            boolean wins = (set >> member & 1) == 1;
            int away = wins ? 3 : 4;
            club.wager(member, club.needle(member) + (member % 2 == 0 ? away : -away), 1);
            if (!wins && (set == 0 || member % 3 == 0)) {
                club.tap(member);
            }
        }
        return club;
    }

    @Sentence(promise = 18, value = "Returns the same by a second way: by distances from 0 on, until somebody is so "
            + "far off.")
    static void winnersAgain() {
        for (int distance : new int[] {0, 1, 2, 100, 399, 400}) {
            BarometerClub club = Clubs.atPressure(1100, 0, 9);
            club.wager(0, 1100 - distance, 1);
            due("so far off: " + distance, club.winnersAgain(), 1);
            club.wager(1, distance < 292 ? 992 - distance : 700, 1);
            due("the same with another", club.winnersAgain(), club.winners());
        }
        BarometerClub low = Clubs.atPressure(900, 0, 9);
        low.wager(1, 1100, 1);
        due("308 off", low.winnersAgain(), 2);
        low.wager(0, 1100, 1);
        due("200 off", low.winnersAgain(), 1);
    }

    @Sentence(promise = 18, value = "Returns the set of them.")
    static void winnersAgainReturns() {
        for (int set = 0; set < 64; set++) {
            BarometerClub club = clubOfWinners(set);
            due("set " + set, club.winnersAgain(), set);
        }
        due("nobody is there", new BarometerClub().winnersAgain(), 0);
        BarometerClub club = Clubs.of(0);
        due("nobody has wagered", club.winnersAgain(), 0);
    }

    @Sentence(promise = 19, value = "Returns how many coins each one who would win now would get.")
    static void share() {
        for (int winners = 1; winners <= 6; winners++) {
            BarometerClub club = clubOfWinners((1 << winners) - 1);
            int pot = club.account(2);
            due(pot + " coins for " + winners, club.share(), pot / winners);
            int before = club.memberOf(0, 0);
            club.read();
            due("each gets as many", club.memberOf(0, 0) - before, pot / winners);
        }
    }

    @Sentence(promise = 19, value = "Returns how many, 0 if nobody would win.")
    static void shareOfNobody() {
        due("nobody is there", new BarometerClub().share(), 0);
        BarometerClub club = Clubs.of(0);
        club.move(0, 9);
        due("nobody has wagered", club.share(), 0);
        club.wager(0, 900, 1);
        due("one would win", club.share(), 19);
        club.tap(0);
        due("all tapped", club.share(), 0);
    }

    @Sentence(promise = 20, value = "Returns who would win if the needles were read behind a day with a change; a "
            + "pressure that would be below 900 or above 1100 is held at these.")
    static void wouldWin() {
        BarometerClub club = Clubs.of(0, 1);
        club.wager(0, 1000, 1);
        club.wager(1, 988 + 2, 1);
        due("no change", club.wouldWin(0), 1);
        due("as near", club.wouldWin(1), 3);
        due("farther", club.wouldWin(2), 2);
        for (int change = -40; change <= 40; change++) {
            int told = club.wouldWin(change);
            club.day(change);
            due("as a day with " + change, told, club.winners());
            club.undo();
        }
        due("a question changes nothing", Clubs.weather(club), "1000 0 0 0 0 0");
    }

    @Sentence(promise = 20, value = "Returns who would win if the needles were read behind a day with a change; a "
            + "pressure that would be below 900 or above 1100 is held at these.")
    static void wouldWinIsHeld() {
        BarometerClub low = Clubs.atPressure(901, 0, 1);
        low.wager(0, 899, 1);
        low.wager(1, 886, 1);
        due("as near at 900", low.wouldWin(-1), 1);
        due("held at 900 by -2", low.wouldWin(-2), 1);
        due("held at 900 by -40", low.wouldWin(-40), 1);
        BarometerClub high = Clubs.atPressure(1099, 0, 1);
        high.wager(0, 1098, 1);
        high.wager(1, 1091, 1);
        due("at 1100", high.wouldWin(1), 1);
        due("held at 1100 by 2", high.wouldWin(2), 1);
        due("held at 1100 by 40", high.wouldWin(40), 1);
        BarometerClub atLowest = Clubs.atPressure(900, 0, 1);
        atLowest.wager(0, 900, 1);
        atLowest.wager(1, 887, 1);
        due("it is 900 already", atLowest.wouldWin(-1), 1);
        BarometerClub atHighest = Clubs.atPressure(1100, 0, 1);
        atHighest.wager(0, 1100, 1);
        atHighest.wager(1, 1089, 1);
        due("it is 1100 already", atHighest.wouldWin(1), 1);
    }

    @Sentence(promise = 20, value = "Returns the set of them.")
    static void wouldWinReturns() {
        for (int set = 0; set < 64; set++) {
            BarometerClub club = clubOfWinners(set);
            due("set " + set, club.wouldWin(0), set);
        }
    }

    @Sentence(promise = 20, value = "Throws `IllegalArgumentException` if the change is not from -40 to 40")
    static void wouldWinByNoChange() {
        dueThrownOutside(-40, 40, ARGUMENT, Clubs.of(0), (club, change) -> club.wouldWin(change));
        dueThrownOutside(-40, 40, ARGUMENT, Clubs.atPressure(900), (club, change) -> club.wouldWin(change));
        dueThrownOutside(-40, 40, ARGUMENT, Clubs.atPressure(1100), (club, change) -> club.wouldWin(change));
    }

    @Sentence(promise = 21, value = "Returns the change of a day, as wouldWin tells, behind which a member would win "
            + "alone: the nearest to 0, of two as near the one below 0.")
    static void changeFor() {
        for (int gap = 0; gap <= 40; gap++) {
            BarometerClub club = Clubs.of(0, 1);
            club.wager(0, 1000, 1);
            club.wager(1, 988 - 2 * gap, 1);
            due("-1 behind as near at " + -gap, Check.answer(() -> club.changeFor(1)),
                    gap < 40 && gap > 0 ? -gap - 1 : (Object) ELEMENT);
            due("the other one wins alone now", Check.answer(() -> club.changeFor(0)),
                    gap > 0 ? (Object) 0 : ELEMENT);
        }
        for (int gap = 1; gap <= 40; gap++) {
            BarometerClub club = Clubs.of(0, 1);
            club.wager(0, 1000, 1);
            club.wager(1, 988 + 2 * gap, 1);
            due("1 behind as near at " + gap, Check.answer(() -> club.changeFor(1)),
                    gap < 40 ? gap + 1 : (Object) ELEMENT);
        }
    }

    @Sentence(promise = 21, value = "Returns the change of a day, as wouldWin tells, behind which a member would win "
            + "alone: the nearest to 0, of two as near the one below 0.")
    static void changeForAsWouldWinTells() {
        for (int pressure = 900; pressure <= 1100; pressure += 10) {
            for (int guess = 700; guess <= 1100; guess += 10) {
                BarometerClub club = Clubs.atPressure(pressure, 0, 5, 9);
                club.wager(0, Math.min(1100, pressure + 7), 1);
                club.wager(1, guess, 1);
                club.wager(2, pressure - 108 - 16, 1);
                due("at " + pressure + " by " + guess, Check.answer(() -> club.changeFor(1)), nearestAlone(club, 1));
            }
        }
    }

    private static Object nearestAlone(BarometerClub club, int member) {
        for (int size = 0; size <= 40; size++) {
            for (int change : new int[] {-size, size}) {
                if (club.wouldWin(change) == 1 << member) {
                    return change;
                }
            }
        }
        return ELEMENT;
    }

    @Sentence(promise = 21, value = "Returns the change.")
    static void changeForReturns() {
        BarometerClub club = Clubs.of(0, 1);
        club.wager(0, 1000, 1);
        due("0 for the only one", club.changeFor(0), 0);
        club.wager(1, 988 - 79, 1);
        due("the least change", club.changeFor(1), -40);
        BarometerClub up = Clubs.of(0, 1);
        up.wager(0, 1000, 1);
        up.wager(1, 988 + 79, 1);
        due("the greatest change", up.changeFor(1), 40);
        due("a question changes nothing", Clubs.weather(up), "1000 0 0 0 0 0");
    }

    @Sentence(promise = 21, value = "Throws `IndexOutOfBoundsException` if there is no such member")
    static void changeForStrangers() {
        dueThrownForStrangers((club, member) -> club.changeFor(member));
    }

    @Sentence(promise = 21, value = "Throws `NoSuchElementException` if there is none")
    static void changeForNone() {
        BarometerClub club = Clubs.of(0, 1, 2);
        Check.thrown("nobody has wagered", ELEMENT, () -> club.changeFor(0));
        club.wager(0, 1000, 1);
        club.wager(1, 988, 1);
        Check.thrown("as near by all changes", ELEMENT, () -> club.changeFor(0));
        Check.thrown("as near by all changes, the other", ELEMENT, () -> club.changeFor(1));
        Check.thrown("not wagered", ELEMENT, () -> club.changeFor(2));
        BarometerClub far = Clubs.of(0, 1);
        far.wager(0, 1000, 1);
        far.wager(1, 988 - 80, 1);
        Check.thrown("as near at -40", ELEMENT, () -> far.changeFor(1));
        BarometerClub held = Clubs.atPressure(905, 0, 1);
        held.wager(0, 905, 1);
        held.wager(1, 893 - 10, 1);
        Check.thrown("as near at 900, and held", ELEMENT, () -> held.changeFor(1));
        BarometerClub upper = Clubs.atPressure(1095, 0, 1);
        upper.wager(0, 1090, 1);
        upper.wager(1, 1098, 1);
        Check.thrown("as near at 1100, and held", ELEMENT, () -> upper.changeFor(1));
        upper.undo();
        upper.wager(1, 1097, 1);
        due("one nearer wins alone at 1100", upper.changeFor(1), 5);
    }

    @Sentence(promise = 22, value = "Returns the guess by which a member would win most surely now: what the needle "
            + "shows, held in the range of guesses.")
    static void bestGuess() {
        for (int pressure = 900; pressure <= 1100; pressure += 50) {
            BarometerClub club = Clubs.atPressure(pressure, 0, 9);
            due("at height 0", club.bestGuess(0), pressure);
            due("at height 9", club.bestGuess(1), pressure - 108);
            club.wager(1, club.bestGuess(1), 1);
            due("it is not off", club.off(1), 0);
        }
    }

    @Sentence(promise = 22, value = "Returns the guess.")
    static void bestGuessReturns() {
        due("the least", Clubs.atPressure(900, 9).bestGuess(0), 792);
        due("the greatest", Clubs.atPressure(1100, 0).bestGuess(0), 1100);
    }

    @Sentence(promise = 22, value = "Throws `IndexOutOfBoundsException` if there is no such member")
    static void bestGuessOfStrangers() {
        dueThrownForStrangers((club, member) -> club.bestGuess(member));
    }

    @Sentence(promise = 23, value = "Returns the free height that is the nearest to that of a member, of two as near "
            + "the lower one, and which the member could pay for.")
    static void nearestFree() {
        BarometerClub club = Clubs.of(5);
        due("the lower one of two", club.nearestFree(0), 4);
        club.join(4);
        due("the higher one, when the lower is owned", club.nearestFree(0), 6);
        club.join(6);
        due("the lower one of two, farther", club.nearestFree(0), 3);
        club.join(3);
        due("the higher one, farther", club.nearestFree(0), 7);
        BarometerClub ends = Clubs.of(0, 9);
        due("nothing is below 0", ends.nearestFree(0), 1);
        due("nothing is above 9", ends.nearestFree(1), 8);
    }

    @Sentence(promise = 23, value = "Returns the free height that is the nearest to that of a member, of two as near "
            + "the lower one, and which the member could pay for.")
    static void nearestFreeThatCanBePaidFor() {
        for (int coins = 0; coins <= 13; coins++) {
            BarometerClub club = Clubs.of(0, 1, 2, 3, 4, 5);
            Clubs.drain(club, 0, coins);
            due("12 coins are due, there are " + coins, Check.answer(() -> club.nearestFree(0)),
                    coins >= 12 ? 6 : (Object) ELEMENT);
            BarometerClub upper = Clubs.of(9, 8, 7, 6, 5);
            Clubs.drain(upper, 0, coins);
            due("10 coins are due, there are " + coins, Check.answer(() -> upper.nearestFree(0)),
                    coins >= 10 ? 4 : (Object) ELEMENT);
        }
    }

    @Sentence(promise = 23, value = "Returns the height.")
    static void nearestFreeReturns() {
        due("the lowest", Clubs.of(1).nearestFree(0), 0);
        due("the highest", Clubs.of(8, 7).nearestFree(0), 9);
        BarometerClub club = Clubs.of(5, 4);
        due("one that a move takes", club.move(0, club.nearestFree(0)), 48);
    }

    @Sentence(promise = 23, value = "Throws `IndexOutOfBoundsException` if there is no such member")
    static void nearestFreeOfStrangers() {
        dueThrownForStrangers((club, member) -> club.nearestFree(member));
    }

    @Sentence(promise = 23, value = "Throws `NoSuchElementException` if there is none")
    static void nearestFreeNone() {
        for (int coins = 0; coins <= 5; coins++) {
            BarometerClub club = Clubs.of(5, 4, 6);
            Clubs.drain(club, 0, coins);
            due("4 coins are due, there are " + coins, Check.answer(() -> club.nearestFree(0)),
                    coins >= 4 ? 3 : (Object) ELEMENT);
            BarometerClub alone = Clubs.of(5);
            Clubs.drain(alone, 0, coins);
            due("2 coins are due, there are " + coins, Check.answer(() -> alone.nearestFree(0)),
                    coins >= 2 ? 4 : (Object) ELEMENT);
        }
    }

    private static String order(BarometerClub club, int measure) {
        StringBuilder members = new StringBuilder();
        for (int place = 0; place < club.account(0); place++) {
            members.append(club.ranked(measure, place));
        }
        return members.toString();
    }

    @Sentence(promise = 24, value = "Returns a member by a measure: the greatest first, of several the lowest.")
    static void ranked() {
        BarometerClub club = Clubs.of(3, 5, 1, 4, 0, 9);
        due("all as many coins", order(club, 0), "012345");
        due("all as many readings won", order(club, 3), "012345");
        club.wager(4, 1000, 1);
        club.wager(1, 900, 1);
        club.read();
        club.wager(2, 1000, 1);
        club.wager(5, 1000, 1);
        due("51, some 50, some 49", order(club, 0), "403125");
        due("one has won", order(club, 3), "401235");
    }

    @Sentence(promise = 24, value = "- `measure`: 0 for the coins, 1 for the height, 2 for what the needle shows, 3 "
            + "for the readings won so far")
    static void rankedMeasures() {
        BarometerClub club = Clubs.of(3, 5, 1, 4);
        club.wager(0, 964, 9);
        club.wager(1, 940, 1);
        club.wager(2, 988, 2);
        club.wager(3, 952, 3);
        due("coins", order(club, 0), "1230");
        due("heights", order(club, 1), "1302");
        due("needles", order(club, 2), "2031");
        club.tap(0);
        club.tap(1);
        club.read();
        due("readings won", order(club, 3), "2301");
    }

    @Sentence(promise = 24, value = "- `place`: the place in this order, from 0")
    static void rankedPlaces() {
        BarometerClub club = Clubs.of(0, 1, 2, 3, 4, 5);
        for (int place = 0; place < 6; place++) {
            due("the highest first", club.ranked(1, place), 5 - place);
            due("the needle that shows most first", club.ranked(2, place), place);
        }
    }

    @Sentence(promise = 24, value = "Returns the member.")
    static void rankedReturns() {
        BarometerClub club = Clubs.of(2);
        for (int measure = 0; measure <= 3; measure++) {
            due("the only one", club.ranked(measure, 0), 0);
        }
    }

    @Sentence(promise = 24, value = "Throws `IllegalArgumentException` if there is no such measure")
    static void rankedByNoMeasure() {
        dueThrownOutside(0, 3, ARGUMENT, Clubs.of(1, 2), (club, measure) -> club.ranked(measure, 0));
        dueThrownOutside(0, 3, ARGUMENT, new BarometerClub(), (club, measure) -> club.ranked(measure, 0));
    }

    @Sentence(promise = 24, value = "Throws `NoSuchElementException` if there is no such place")
    static void rankedAtNoPlace() {
        for (int measure = 0; measure <= 3; measure++) {
            int by = measure;
            dueThrownOutside(0, -1, ELEMENT, new BarometerClub(), (club, place) -> club.ranked(by, place));
            dueThrownOutside(0, 1, ELEMENT, Clubs.of(1, 2), (club, place) -> club.ranked(by, place));
            dueThrownOutside(0, 5, ELEMENT, Clubs.of(1, 2, 3, 4, 5, 6), (club, place) -> club.ranked(by, place));
        }
    }

    @Sentence(promise = 25, value = "Returns a number of the weather.")
    static void weather() {
        due("at first", Clubs.weather(new BarometerClub()), "1000 0 0 0 0 0");
    }

    @Sentence(promise = 25, value = "- `what`: 0 for the pressure, 1 for the latest change, 2 for 1 if there is a "
            + "storm that can be put into a bottle, otherwise 0, 3 for the days so far, 4 for the storms so far, 5 "
            + "for the bottles let out so far")
    static void weatherWhat() {
        BarometerClub club = Clubs.of(0);
        club.day(-22);
        due("a storm", Clubs.weather(club), "978 -22 1 1 1 0");
        club.bottle(0);
        due("in a bottle", Clubs.weather(club), "978 -22 0 1 1 0");
        club.day(5);
        due("a day", Clubs.weather(club), "983 5 0 2 1 0");
        club.day(-20);
        club.letOut(0);
        due("let out", Clubs.weather(club), "948 -15 0 3 2 1");
    }

    @Sentence(promise = 25, value = "Returns the number.")
    static void weatherReturns() {
        due("the lowest pressure", Clubs.atPressure(900).weather(0), 900);
        due("the highest pressure", Clubs.atPressure(1100).weather(0), 1100);
    }

    @Sentence(promise = 25, value = "Throws `IllegalArgumentException` if what is not from 0 to 5")
    static void weatherWhatElse() {
        dueThrownOutside(0, 5, ARGUMENT, Clubs.of(0), (club, what) -> club.weather(what));
    }

    @Sentence(promise = 26, value = "Returns whether the coins that were brought so far are those of the members, "
            + "those in the pot, and those that were taken along.")
    static void isEven() {
        BarometerClub club = new BarometerClub();
        due("nobody has come", club.isEven(), true);
        String[] texts = {"j0;j1;j2", "w0=1000/9;w1=988/4;t1", "m2>9", "r", "w0=1000/1;w1=988/1;w2=892/2", "r", "x0",
            "j5;x0;x0", "x0"};
        for (String text : texts) {
            Clubs.run(club, text);
            due("behind " + text, club.isEven(), true);
            int sum = club.account(1) + club.account(2) + club.account(8);
            due("the coins behind " + text, sum, club.account(7));
        }
    }

    @Sentence(promise = 26, value = "Returns whether this is so.")
    static void isEvenReturns() {
        BarometerClub club = Clubs.of(0, 1);
        club.save();
        club.wager(0, 1000, 3);
        club.undo();
        due("behind undo", club.isEven(), true);
        club.leave(1);
        club.restore();
        due("behind restore", club.isEven(), true);
        Check.refused("a refused text", club, 14, 0, 2, () -> Clubs.run(club, "x0;d+1;r"));
        due("behind a refused text", club.isEven(), true);
    }

    public static void main(String[] args) {
        Sentences.run(QuestionSentencesTest.class);
    }
}
