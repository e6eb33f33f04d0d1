import java.util.List;
import java.util.NoSuchElementException;

/** After each refused call, and each call that throws, the state is what it was, but for what the document says. */
public final class UnchangedTest {
    private static final Class<IndexOutOfBoundsException> INDEX = IndexOutOfBoundsException.class;
    private static final Class<IllegalArgumentException> ARGUMENT = IllegalArgumentException.class;
    private static final Class<IllegalStateException> STATE = IllegalStateException.class;
    private static final Class<NoSuchElementException> ELEMENT = NoSuchElementException.class;
    private static final Class<ArithmeticException> ARITHMETIC = ArithmeticException.class;
    private static final Class<UnsupportedOperationException> REFUSED = UnsupportedOperationException.class;

    private static final String TEXT = "d+1;d-3";

    /** A call that may throw. */
    private interface Call {
        Object on(BarometerClub club);
    }

    /** Four members; two have wagered, one of them has tapped; bottles, a storm, a snapshot, a full history. */
    private static void busy(BarometerClub club) {
        Clubs.run(club, "j3;j0;j5;j9;d-20;b1");
        club.day(-22);
        club.bottle(1);
        club.wager(0, 950, 3);
        club.save();
        club.wager(2, 900, 2);
        club.tap(2);
        club.exchange(0, 3);
        club.move(1, 2);
        club.day(-21);
        club.bottle(1);
        club.day(19);
        club.day(-23);
        leaveTraces(club);
    }

    /** A fault, a reason, a line, and a text that is not yet called, none of which an exception may change. */
    private static void leaveTraces(BarometerClub club) {
        Check.answer(() -> Clubs.run(club, "d+7;r;?"));
        Check.answer(() -> club.day(99));
        club.board();
        Clubs.type(club, TEXT);
    }

    private static void sixMembers(BarometerClub club) {
        Clubs.run(club, "j1;j3;j5;j7;j9;j0");
        club.day(5);
        club.save();
        club.wager(3, 900, 1);
        leaveTraces(club);
    }

    /** The member 0 has no coins, the member 1 has wagered all of 4 coins, the member 2 has 3. */
    private static void poor(BarometerClub club) {
        Clubs.run(club, "j4;j6;j9");
        club.save();
        Clubs.drain(club, 0, 0);
        Clubs.drain(club, 2, 3);
        Clubs.drain(club, 1, 4);
        club.wager(1, 900, 4);
        leaveTraces(club);
    }

    private static void calm(BarometerClub club) {
        Clubs.run(club, "j4;j6;m0>5");
        club.day(-19);
        club.save();
        club.move(1, 8);
        leaveTraces(club);
    }

    /** The pressure is 905, and the member 0 has a bottle, and there is a storm. */
    private static void low(BarometerClub club) {
        Clubs.run(club, "j4;j6;w1=900/1");
        Clubs.giveBottles(club, 0, 1);
        Clubs.bringTo(club, 925);
        club.save();
        club.day(-20);
        leaveTraces(club);
    }

    private static void high(BarometerClub club) {
        low(club);
        club.commands();
        Clubs.bringTo(club, 1095);
        leaveTraces(club);
    }

    private static void nobody(BarometerClub club) {
        club.join(3);
        club.day(-20);
        club.save();
        club.move(0, 7);
        club.leave(0);
        leaveTraces(club);
    }

    private static void restored(BarometerClub club) {
        busy(club);
        club.restore();
    }

    private static void untouched(BarometerClub club) {
        club.join(3);
        club.day(-20);
    }

    private static void due(String what, Object got, Object want) {
        Check.due(what, got, want);
    }

    /** The club that the call was made on is as one on which it was not made, but for the reason that is told. */
    private static void unchanged(String what, State.Recipe before, Call call, Class<?> want, String reason) {
        State.Recipe behind = club -> {
            before.on(club);
            due(what, Check.answer(() -> call.on(club)), want);
        };
        BarometerClub club = State.made(behind);
        BarometerClub other = State.made(before);
        due("the club behind " + what, State.ofClub(club), State.ofClub(other));
        due("the text behind " + what, State.ofText(club), State.ofText(other));
        due("the fault behind " + what, State.ofFault(club), State.ofFault(other));
        due("the line behind " + what, State.ofLine(club), State.ofLine(other));
        due("the reason behind " + what, State.ofReason(club), reason.isEmpty() ? State.ofReason(other) : reason);
        dueHidden(what, behind, before);
    }

    private static void dueHidden(String what, State.Recipe behind, State.Recipe before) {
        List<String> got = State.hidden(behind);
        List<String> want = State.hidden(before);
        for (int index = 0; index < want.size(); index++) {
            due("hidden behind " + what, got.get(index), want.get(index));
        }
    }

    private static void refused(String what, State.Recipe before, String reason, Call call) {
        unchanged(what + ", refused for " + reason, before, call, REFUSED, "reason " + reason + " 0");
    }

    private static void thrown(String what, State.Recipe before, Class<?> want, Call call) {
        unchanged(what, before, call, want, "");
    }

    /** A text that is refused, or has a fault: the buffer is empty, and the fault position is that of the text. */
    private static void text(String text, State.Recipe before, Class<?> want, int fault, String reason) {
        State.Recipe emptied = club -> {
            before.on(club);
            if (club.account(10) > 0) {
                // The only way to empty the buffer that changes nothing else but the fault position.
                club.append('?');
                Check.answer(club::commands);
            }
        };
        State.Recipe behind = club -> {
            emptied.on(club);
            Clubs.type(club, text);
            due(text, Check.answer(club::commands), want);
        };
        BarometerClub club = State.made(behind);
        BarometerClub other = State.made(emptied);
        due("the club behind " + text, State.ofClub(club), State.ofClub(other));
        due("the text behind " + text, State.ofText(club), "0 characters");
        due("the fault behind " + text, State.ofFault(club), "fault " + fault);
        due("the line behind " + text, State.ofLine(club), State.ofLine(other));
        due("the reason behind " + text, State.ofReason(club), reason.isEmpty() ? State.ofReason(other) : reason);
        dueHidden(text, behind, emptied);
    }

    private static void textRefused(String text, State.Recipe before, String reason) {
        text(text, before, REFUSED, -1, "reason " + reason);
    }

    private static void textWithFault(String text, State.Recipe before, int fault) {
        text(text, before, ARGUMENT, fault, "");
    }

    @Sentence(promise = 0, value = "A call that throws an exception leaves the state unchanged, unless stated "
            + "otherwise.")
    static void theStatesAreRich() {
        BarometerClub busy = State.made(UnchangedTest::busy);
        due("busy, weather", Clubs.weather(busy), "933 -23 1 5 4 0");
        due("busy, coins", Clubs.all(busy, 0), "47 46 47 50");
        due("busy, heights", Clubs.all(busy, 1), "9 2 5 3");
        due("busy, guesses", Clubs.all(busy, 2), "950 -1 900 -1");
        due("busy, tapped", Clubs.all(busy, 4), "0 0 1 0");
        due("busy, bottles", Clubs.all(busy, 5), "0 3 0 0");
        due("busy, pot and changes that can be undone", busy.account(2) * 10 + busy.account(9), 108);
        due("poor", Clubs.all(State.made(UnchangedTest::poor), 0), "0 0 3");
        due("low", Clubs.weather(State.made(UnchangedTest::low)).substring(0, 9), "905 -20 1");
        due("high", State.made(UnchangedTest::high).weather(0), 1095);
        BarometerClub club = State.made(UnchangedTest::calm);
        due("traces", State.ofText(club) + State.ofFault(club) + State.ofReason(club) + State.ofLine(club),
                "7 charactersfault 6reason 1 0 0line .....0..1.");
    }

    @Sentence(promise = 2, value = "Throws `UnsupportedOperationException` if it is refused for the reason 1, 2 or 3; "
            + "the reason is kept")
    static void join() {
        refused("join(-1)", UnchangedTest::busy, "1 0", club -> club.join(-1));
        refused("join(10)", UnchangedTest::busy, "1 0", club -> club.join(10));
        refused("join(2)", UnchangedTest::sixMembers, "2 6", club -> club.join(2));
        refused("join(5)", UnchangedTest::busy, "3 2", club -> club.join(5));
        refused("join(3)", UnchangedTest::untouched, "3 0", club -> club.join(3));
    }

    @Sentence(promise = 3, value = "Throws `UnsupportedOperationException` if it is refused for the reason 4 or 7; the "
            + "reason is kept")
    static void leave() {
        refused("leave(4)", UnchangedTest::busy, "4 4", club -> club.leave(4));
        refused("leave(-1)", UnchangedTest::busy, "4 4", club -> club.leave(-1));
        refused("leave(0)", UnchangedTest::nobody, "4 0", club -> club.leave(0));
        refused("leave(0)", UnchangedTest::busy, "7 950", club -> club.leave(0));
        refused("leave(2)", UnchangedTest::busy, "7 900", club -> club.leave(2));
    }

    @Sentence(promise = 4, value = "Throws `UnsupportedOperationException` if it is refused for the reason 4, 1, 3, "
            + "also if the member owns it, or 5; the reason is kept")
    static void move() {
        refused("move(4, 7)", UnchangedTest::busy, "4 4", club -> club.move(4, 7));
        refused("move(-1, 7)", UnchangedTest::busy, "4 4", club -> club.move(-1, 7));
        refused("move(0, -1)", UnchangedTest::busy, "1 0", club -> club.move(0, -1));
        refused("move(0, 10)", UnchangedTest::busy, "1 0", club -> club.move(0, 10));
        refused("move(0, 2)", UnchangedTest::busy, "3 1", club -> club.move(0, 2));
        refused("move(0, 9)", UnchangedTest::busy, "3 0", club -> club.move(0, 9));
        refused("move(0, 5)", UnchangedTest::poor, "5 2", club -> club.move(0, 5));
        refused("move(2, 7)", UnchangedTest::poor, "5 1", club -> club.move(2, 7));
    }

    @Sentence(promise = 5, value = "Throws `UnsupportedOperationException` if it is refused for the reason 4, for the "
            + "one, then for the other, or 6; the reason is kept")
    static void exchange() {
        refused("exchange(4, 0)", UnchangedTest::busy, "4 4", club -> club.exchange(4, 0));
        refused("exchange(0, 4)", UnchangedTest::busy, "4 4", club -> club.exchange(0, 4));
        refused("exchange(0, -1)", UnchangedTest::busy, "4 4", club -> club.exchange(0, -1));
        refused("exchange(2, 2)", UnchangedTest::busy, "6 2", club -> club.exchange(2, 2));
    }

    @Sentence(promise = 6, value = "Throws `UnsupportedOperationException` if it is refused for the reason 4, 1, 7 or "
            + "5; the reason is kept")
    static void wager() {
        refused("wager(4, 900, 1)", UnchangedTest::busy, "4 4", club -> club.wager(4, 900, 1));
        refused("wager(1, 699, 1)", UnchangedTest::busy, "1 0", club -> club.wager(1, 699, 1));
        refused("wager(1, 1101, 1)", UnchangedTest::busy, "1 0", club -> club.wager(1, 1101, 1));
        refused("wager(1, 900, 0)", UnchangedTest::busy, "1 0", club -> club.wager(1, 900, 0));
        refused("wager(1, 900, 10)", UnchangedTest::busy, "1 0", club -> club.wager(1, 900, 10));
        refused("wager(0, 900, 1)", UnchangedTest::busy, "7 950", club -> club.wager(0, 900, 1));
        refused("wager(0, 900, 1)", UnchangedTest::poor, "5 1", club -> club.wager(0, 900, 1));
        refused("wager(2, 900, 9)", UnchangedTest::poor, "5 6", club -> club.wager(2, 900, 9));
    }

    @Sentence(promise = 7, value = "Throws `UnsupportedOperationException` if it is refused for the reason 4, 8, 9 or "
            + "5; the reason is kept")
    static void tap() {
        refused("tap(4)", UnchangedTest::busy, "4 4", club -> club.tap(4));
        refused("tap(1)", UnchangedTest::busy, "8 0", club -> club.tap(1));
        refused("tap(2)", UnchangedTest::busy, "9 2", club -> club.tap(2));
        refused("tap(1)", UnchangedTest::poor, "5 1", club -> club.tap(1));
    }

    @Sentence(promise = 8, value = "Throws `UnsupportedOperationException` if it is refused for the reason 1 or 13; "
            + "the reason is kept")
    static void day() {
        refused("day(41)", UnchangedTest::busy, "1 0", club -> club.day(41));
        refused("day(-41)", UnchangedTest::busy, "1 0", club -> club.day(-41));
        refused("day(-6)", UnchangedTest::low, "13 899", club -> club.day(-6));
        refused("day(-40)", UnchangedTest::low, "13 865", club -> club.day(-40));
        refused("day(6)", UnchangedTest::high, "13 1101", club -> club.day(6));
    }

    @Sentence(promise = 9, value = "Throws `UnsupportedOperationException` if it is refused for the reason 4, 10 or "
            + "11; the reason is kept")
    static void bottle() {
        refused("bottle(4)", UnchangedTest::busy, "4 4", club -> club.bottle(4));
        refused("bottle(0)", UnchangedTest::calm, "10 -19", club -> club.bottle(0));
        refused("bottle(1)", UnchangedTest::busy, "11 3", club -> club.bottle(1));
    }

    @Sentence(promise = 10, value = "Throws `UnsupportedOperationException` if it is refused for the reason 4, 12 or "
            + "13; the reason is kept")
    static void letOut() {
        refused("letOut(4)", UnchangedTest::busy, "4 4", club -> club.letOut(4));
        refused("letOut(0)", UnchangedTest::busy, "12 0", club -> club.letOut(0));
        refused("letOut(0)", UnchangedTest::low, "13 890", club -> club.letOut(0));
    }

    @Sentence(promise = 11, value = "Throws `UnsupportedOperationException` if it is refused for the reason 14; the "
            + "reason is kept")
    static void read() {
        refused("read()", UnchangedTest::calm, "14 6", club -> club.read());
        refused("read()", UnchangedTest::nobody, "14 8", club -> club.read());
    }

    @Sentence(promise = 12, value = "Throws `IndexOutOfBoundsException` if there is no such member")
    static void memberOf() {
        thrown("memberOf(4, 0)", UnchangedTest::busy, INDEX, club -> club.memberOf(4, 0));
        thrown("memberOf(-1, 0)", UnchangedTest::busy, INDEX, club -> club.memberOf(-1, 0));
        thrown("memberOf(0, 7)", UnchangedTest::busy, ARGUMENT, club -> club.memberOf(0, 7));
        thrown("memberOf(0, -1)", UnchangedTest::busy, ARGUMENT, club -> club.memberOf(0, -1));
    }

    @Sentence(promise = 13, value = "Throws `IndexOutOfBoundsException` if there is no such member")
    static void questionsForStrangers() {
        for (int member : new int[] {4, -1}) {
            thrown("needle", UnchangedTest::busy, INDEX, club -> club.needle(member));
            thrown("needleAgain", UnchangedTest::busy, INDEX, club -> club.needleAgain(member));
            thrown("off", UnchangedTest::busy, INDEX, club -> club.off(member));
            thrown("changeFor", UnchangedTest::busy, INDEX, club -> club.changeFor(member));
            thrown("bestGuess", UnchangedTest::busy, INDEX, club -> club.bestGuess(member));
            thrown("nearestFree", UnchangedTest::busy, INDEX, club -> club.nearestFree(member));
            thrown("line", UnchangedTest::busy, INDEX, club -> club.line(member));
        }
    }

    @Sentence(promise = 15, value = "Throws `NoSuchElementException` if the member has not wagered")
    static void questionsWithoutAnAnswer() {
        thrown("off(1)", UnchangedTest::busy, ELEMENT, club -> club.off(1));
        thrown("owner(0)", UnchangedTest::busy, ELEMENT, club -> club.owner(0));
        thrown("changeFor(1), not wagered", UnchangedTest::busy, ELEMENT, club -> club.changeFor(1));
        thrown("changeFor(2), tapped", UnchangedTest::busy, ELEMENT, club -> club.changeFor(2));
        thrown("nearestFree(0)", UnchangedTest::poor, ELEMENT, club -> club.nearestFree(0));
        thrown("ranked(0, 4)", UnchangedTest::busy, ELEMENT, club -> club.ranked(0, 4));
        thrown("ranked(0, -1)", UnchangedTest::busy, ELEMENT, club -> club.ranked(0, -1));
        thrown("reason(0)", UnchangedTest::untouched, ELEMENT, club -> club.reason(0));
        thrown("meanCoins()", UnchangedTest::nobody, ARITHMETIC, club -> club.meanCoins());
        thrown("tappedShare()", UnchangedTest::calm, ARITHMETIC, club -> club.tappedShare());
    }

    @Sentence(promise = 16, value = "Throws `IllegalArgumentException` if there is no such height")
    static void questionsOutOfRange() {
        thrown("owner(-1)", UnchangedTest::busy, ARGUMENT, club -> club.owner(-1));
        thrown("owner(10)", UnchangedTest::busy, ARGUMENT, club -> club.owner(10));
        thrown("wouldWin(-41)", UnchangedTest::busy, ARGUMENT, club -> club.wouldWin(-41));
        thrown("wouldWin(41)", UnchangedTest::busy, ARGUMENT, club -> club.wouldWin(41));
        thrown("ranked(-1, 0)", UnchangedTest::busy, ARGUMENT, club -> club.ranked(-1, 0));
        thrown("ranked(4, 0)", UnchangedTest::busy, ARGUMENT, club -> club.ranked(4, 0));
        thrown("weather(-1)", UnchangedTest::busy, ARGUMENT, club -> club.weather(-1));
        thrown("weather(6)", UnchangedTest::busy, ARGUMENT, club -> club.weather(6));
        thrown("reason(-1)", UnchangedTest::busy, ARGUMENT, club -> club.reason(-1));
        thrown("reason(3)", UnchangedTest::busy, ARGUMENT, club -> club.reason(3));
        thrown("account(-1)", UnchangedTest::busy, ARGUMENT, club -> club.account(-1));
        thrown("account(11)", UnchangedTest::busy, ARGUMENT, club -> club.account(11));
        thrown("character(-1)", UnchangedTest::busy, INDEX, club -> club.character(-1));
        thrown("character(10)", UnchangedTest::busy, INDEX, club -> club.character(10));
    }

    @Sentence(promise = 27, value = "Throws `IllegalStateException` if the buffer contains 60 characters")
    static void append() {
        State.Recipe full = club -> {
            busy(club);
            Clubs.type(club, ";d+1;d-1".repeat(6) + ";d+2;");
        };
        due("characters", State.made(full).account(10), 60);
        thrown("append to a text that ends too early", full, STATE, club -> club.append('d'));
        State.Recipe whole = club -> {
            busy(club);
            Clubs.type(club, ";d+1;d-1".repeat(6) + ";d-12");
        };
        due("a text without a fault", Check.answer(() -> State.made(whole).commands()), 15);
        thrown("append to a text without a fault", whole, STATE, club -> club.append('3'));
        thrown("append of a sign between commands", whole, STATE, club -> club.append(';'));
    }

    @Sentence(promise = 28, value = "Throws `UnsupportedOperationException` if a command is refused; the reason is "
            + "kept")
    static void commandsOfAll() {
        textRefused("d+1;r;j3;j3", UnchangedTest::busy, "3 3 2");
        textRefused("w1=900/5;t1;r;r", UnchangedTest::busy, "14 0 3");
        textRefused("x3;x1;x2", UnchangedTest::busy, "4 2 2");
        textRefused("j1;j4;j6", UnchangedTest::busy, "2 6 2");
        textRefused("b3;o1;s0&1;m3>4;w3=999/9;t3;d-40", UnchangedTest::busy, "13 878 6");
        textRefused("o0", UnchangedTest::busy, "12 0 0");
        textRefused("b0;b0", UnchangedTest::busy, "10 -23 1");
        textRefused("b1", UnchangedTest::busy, "11 3 0");
        textRefused("j1;s4&4", UnchangedTest::busy, "6 4 1");
        textRefused("j1;w4=777/1;x4", UnchangedTest::busy, "7 777 2");
        textRefused("j1;w4=777/1;t4;t4", UnchangedTest::busy, "9 1 3");
        textRefused("j1;t4", UnchangedTest::busy, "8 0 1");
        textRefused("j1;d+41", UnchangedTest::busy, "1 0 1");
        textRefused("m2>8;m2>9", UnchangedTest::poor, "5 1 1");
        textRefused("r", UnchangedTest::nobody, "14 8 0");
        textRefused("j3;j7;d+1;m0>7", UnchangedTest::nobody, "3 1 3");
    }

    @Sentence(promise = 28, value = "Throws `UnsupportedOperationException` if a command is refused; the reason is "
            + "kept")
    static void commandsBehindRestore() {
        textRefused("d+1;r;r", UnchangedTest::restored, "14 0 2");
        textRefused("x1;x1;x1;x1", UnchangedTest::restored, "4 1 3");
        textRefused("d+1;j3", UnchangedTest::untouched, "3 0 1");
    }

    @Sentence(promise = 28, value = "Throws `IllegalArgumentException` if the text has a fault")
    static void commandsWithAFault() {
        textWithFault("", UnchangedTest::busy, 0);
        textWithFault("d+1;r;", UnchangedTest::busy, 6);
        textWithFault("d+1;r;j1;x", UnchangedTest::busy, 10);
        textWithFault("d+1;r; j1", UnchangedTest::busy, 6);
        textWithFault("x9;?", UnchangedTest::busy, 3);
        textWithFault("d+1;", UnchangedTest::untouched, 4);
        textWithFault("d+1;".repeat(15), UnchangedTest::busy, 60);
    }

    @Sentence(promise = 37, value = "Throws `IllegalStateException` if there is none")
    static void undo() {
        thrown("undo behind restore", UnchangedTest::restored, STATE, club -> club.undo());
        State.Recipe undone = club -> {
            busy(club);
            for (int back = 0; back < 8; back++) {
                club.undo();
            }
        };
        thrown("a ninth undo", undone, STATE, club -> club.undo());
        thrown("undo of a new object", club -> { }, STATE, club -> club.undo());
    }

    @Sentence(promise = 39, value = "Throws `IllegalStateException` if there is no snapshot")
    static void restore() {
        thrown("restore without a snapshot", UnchangedTest::untouched, STATE, club -> club.restore());
        State.Recipe traces = club -> {
            untouched(club);
            leaveTraces(club);
        };
        thrown("restore without a snapshot, with traces", traces, STATE, club -> club.restore());
        thrown("restore of a new object", club -> { }, STATE, club -> club.restore());
    }

    public static void main(String[] args) {
        Sentences.run(UnchangedTest.class);
    }
}
