import java.util.ArrayList;
import java.util.List;
import java.util.NoSuchElementException;

/** The sentences before the promises about texts, reasons, changes that can be undone, and exceptions. */
public final class TermsOfTextsTest {
    private static final Class<IllegalArgumentException> ARGUMENT = IllegalArgumentException.class;
    private static final Class<IllegalStateException> STATE = IllegalStateException.class;

    /** The commands of a text; # stands for a digit. */
    private static final String[] COMMANDS = {
        "j#", "x#", "m#>#", "s#&#", "w#=###/#", "w#=####/#", "t#", "d+#", "d+##", "d-#", "d-##", "b#", "o#", "r"
    };
    private static final int NO_FAULT = -1;

    private static void due(String what, Object got, Object want) {
        Check.due(what, got, want);
    }

    private static int faultOf(String text) {
        BarometerClub club = new BarometerClub();
        Clubs.type(club, text);
        Check.answer(club::commands);
        return club.faultPosition();
    }

    private static void dueFault(String text, int position) {
        due("the fault of " + text, faultOf(text), position);
    }

    private static boolean begins(String command, String text) {
        for (int index = 0; index < text.length(); index++) {
            boolean isDigit = text.charAt(index) >= '0' && text.charAt(index) <= '9';
            boolean fits = index < command.length()
                    && (command.charAt(index) == '#' ? isDigit : command.charAt(index) == text.charAt(index));
            if (!fits) {
                return false;
            }
        }
        return true;
    }

    /** The fault of one command alone, or of a part of it, told by the list of commands. */
    private static int faultByCommands(String text) {
        int longest = 0;
        for (String command : COMMANDS) {
            for (int length = 0; length <= text.length(); length++) {
                if (begins(command, text.substring(0, length))) {
                    longest = Math.max(longest, length);
                }
            }
            if (command.length() == text.length() && begins(command, text)) {
                return NO_FAULT;
            }
        }
        return longest;
    }

    private static List<String> partsOfCommands() {
        List<String> parts = new ArrayList<>();
        for (String command : COMMANDS) {
            for (int length = 0; length <= command.length(); length++) {
                parts.add(command.substring(0, length).replace('#', '0'));
                parts.add(command.substring(0, length).replace('#', '9'));
            }
        }
        return parts;
    }

    @Sentence(promise = 0, value = "The text buffer holds one or more commands with \";\" between them:")
    static void oneOrMoreCommands() {
        dueFault("r", NO_FAULT);
        dueFault("r;r", NO_FAULT);
        dueFault("", 0);
        dueFault(";", 0);
        dueFault(";r", 0);
        dueFault("r;", 2);
        dueFault("r;;r", 2);
        dueFault("rr", 1);
        dueFault("r,r", 1);
        dueFault("r r", 1);
        BarometerClub club = new BarometerClub();
        due("a command", Clubs.run(club, "d+1"), 1);
        due("14 commands", Clubs.run(club, "d+1;".repeat(13) + "d+12"), 14);
        due("all of them were carried out", club.weather(0) * 100 + club.weather(3), 102615);
    }

    @Sentence(promise = 0, value = "The text buffer holds one or more commands with \";\" between them:")
    static void thirtyCommandsAreTheMost() {
        String reads = "r;".repeat(29) + "r";
        BarometerClub club = Clubs.of(0);
        Check.refused("30 commands, the first is refused", club, 14, 0, 0, () -> Clubs.run(club, reads));
        due("30 commands have no fault", club.faultPosition(), NO_FAULT);
        String days = "d+0;".repeat(14) + "d-40";
        due("15 days fill 60 characters", Clubs.run(club, days) * 100 + days.length(), 1560);
        due("days", Clubs.weather(club), "960 -40 1 15 1 0");
    }

    @Sentence(promise = 0, value = "\"j\" and a height lets a member join;")
    static void textOfJoin() {
        BarometerClub club = new BarometerClub();
        due("two", Clubs.run(club, "j0;j9"), 2);
        due("heights", Clubs.all(club, 1), "0 9");
    }

    @Sentence(promise = 0, value = "\"x\" and a member lets one leave;")
    static void textOfLeave() {
        BarometerClub club = Clubs.of(3, 4, 5, 6, 7, 8);
        due("first and last", Clubs.run(club, "x5;x0"), 2);
        due("who is left", Clubs.all(club, 1), "4 5 6 7");
    }

    @Sentence(promise = 0, value = "\"m\", a member, \">\" and a height moves one;")
    static void textOfMove() {
        BarometerClub club = Clubs.of(3, 4);
        due("to the lowest and the highest", Clubs.run(club, "m0>0;m1>9"), 2);
        due("heights", Clubs.all(club, 1), "0 9");
    }

    @Sentence(promise = 0, value = "\"s\", a member, \"&\" and a member exchanges heights;")
    static void textOfExchange() {
        BarometerClub club = Clubs.of(3, 4, 5);
        due("two", Clubs.run(club, "s0&1;s2&1"), 2);
        due("heights", Clubs.all(club, 1), "4 5 3");
    }

    @Sentence(promise = 0, value = "\"w\", a member, \"=\" and a guess, \"/\" and a stake wagers;")
    static void textOfWager() {
        BarometerClub club = Clubs.of(3, 4, 5);
        due("three", Clubs.run(club, "w0=700/1;w1=1100/9;w2=0700/5"), 3);
        due("guesses", Clubs.all(club, 2), "700 1100 700");
        due("stakes", Clubs.all(club, 3), "1 9 5");
    }

    @Sentence(promise = 0, value = "\"t\" and a member taps;")
    static void textOfTap() {
        BarometerClub club = Clubs.of(3, 4);
        due("one", Clubs.run(club, "w1=700/1;t1"), 2);
        due("who has tapped", Clubs.all(club, 4), "0 1");
    }

    @Sentence(promise = 0, value = "\"d\", \"+\" or \"-\", and a number lets a day go by;")
    static void textOfDay() {
        BarometerClub club = new BarometerClub();
        due("up", Clubs.run(club, "d+40") * 10000 + club.weather(0), 11040);
        due("down", Clubs.run(club, "d-40") * 10000 + club.weather(0), 11000);
        due("one digit", Clubs.run(club, "d-9;d+4") * 10000 + club.weather(0), 20995);
        due("a 0 before it", Clubs.run(club, "d-05;d+09") * 10000 + club.weather(0), 20999);
        due("no change", Clubs.run(club, "d+0;d-0;d+00;d-00") * 10000 + club.weather(0), 40999);
        due("the weather", Clubs.weather(club), "999 0 0 10 1 0");
        Check.refused("41", club, 1, 0, 0, () -> Clubs.run(club, "d+41"));
        Check.refused("-41", club, 1, 0, 0, () -> Clubs.run(club, "d-41"));
        Check.refused("99", club, 1, 0, 0, () -> Clubs.run(club, "d+99"));
    }

    @Sentence(promise = 0, value = "\"b\" and a member puts the storm into a bottle;")
    static void textOfBottle() {
        BarometerClub club = Clubs.of(3, 4);
        due("one", Clubs.run(club, "d-20;b1"), 2);
        due("bottles", Clubs.all(club, 5), "0 1");
    }

    @Sentence(promise = 0, value = "\"o\" and a member lets a bottle out;")
    static void textOfLetOut() {
        BarometerClub club = Clubs.of(3, 4);
        due("one", Clubs.run(club, "d-20;b1;o1"), 3);
        due("bottles", Clubs.all(club, 5), "0 0");
        due("the weather", Clubs.weather(club), "965 -15 0 1 1 1");
    }

    @Sentence(promise = 0, value = "and \"r\" reads.")
    static void textOfRead() {
        BarometerClub club = Clubs.of(3, 4);
        due("two readings", Clubs.run(club, "w1=700/1;r;w0=700/2;r"), 4);
        due("readings", club.account(4), 2);
        due("readings won", Clubs.all(club, 6), "1 1");
    }

    @Sentence(promise = 0, value = "Members, heights and stakes have one digit, days one or two, guesses three or "
            + "four.")
    static void numbersOfDigits() {
        for (String text : new String[] {"j0", "j9", "x9", "m9>9", "s9&9", "w9=000/0", "w0=9999/9", "t9", "d+0", "d-9",
            "d+00", "d-99", "b9", "o9"}) {
            dueFault(text, NO_FAULT);
        }
        dueFault("j", 1);
        dueFault("j00", 2);
        dueFault("x00", 2);
        dueFault("m00>0", 2);
        dueFault("m0>00", 4);
        dueFault("s0&00", 4);
        dueFault("w00=700/1", 2);
        dueFault("w0=70/1", 5);
        dueFault("w0=07000/1", 7);
        dueFault("w0=700/01", 8);
        dueFault("w0=0700/01", 9);
        dueFault("t00", 2);
        dueFault("d+", 2);
        dueFault("d+000", 4);
        dueFault("d-001", 4);
        dueFault("b00", 2);
        dueFault("o00", 2);
        dueFault("r0", 1);
    }

    @Sentence(promise = 0, value = "The fault position of a text is the index of its first character that cannot "
            + "continue such a text, or the length of the text if it ends too early.")
    static void everyCharacterBehindEveryPartOfACommand() {
        for (String part : partsOfCommands()) {
            dueFault(part, faultByCommands(part));
            for (int sign = 0; sign <= 300; sign++) {
                String text = part + (char) sign;
                boolean isNext = sign == ';' && faultByCommands(part) == NO_FAULT;
                dueFault(text, isNext ? text.length() : faultByCommands(text));
            }
        }
    }

    @Sentence(promise = 0, value = "The fault position of a text is the index of its first character that cannot "
            + "continue such a text, or the length of the text if it ends too early.")
    static void theFirstFaultIsTold() {
        dueFault("a", 0);
        dueFault("aaa;;;", 0);
        dueFault("j0;m0=1;x", 5);
        dueFault("j0;w0=99;d+1", 8);
        dueFault("d*5", 1);
        dueFault("d5", 1);
        dueFault("d+-5", 2);
        dueFault("m0>1;m0>", 8);
        dueFault("r;" + (char) 0, 2);
        dueFault("j" + (char) 0, 1);
        dueFault("j" + (char) 65535, 1);
        dueFault("j" + (char) ('0' + 256), 1);
        dueFault((char) ('r' + 256) + "", 0);
        dueFault("J0", 0);
    }

    @Sentence(promise = 0, value = "The fault position of a text is the index of its first character that cannot "
            + "continue such a text, or the length of the text if it ends too early.")
    static void theLengthOfATextThatEndsTooEarly() {
        dueFault("", 0);
        dueFault("r;".repeat(30), 60);
        dueFault("r;".repeat(29) + "d+", 60);
        dueFault("r;".repeat(29) + "j0", NO_FAULT);
        dueFault("r;".repeat(29) + "jj", 59);
        dueFault("r;".repeat(26) + "w0=1000/", 60);
        dueFault("r;".repeat(26) + "w0=100/1", NO_FAULT);
        dueFault("r;".repeat(29) + "r", NO_FAULT);
    }

    @Sentence(promise = 0, value = "The commands are carried out as the methods would, all of them or none.")
    static void asTheMethodsWould() {
        BarometerClub club = Clubs.of(0, 1);
        Clubs.run(club, "j5;w0=950/9;w2=900/4;t2;d-30;b1;m1>3;s0&2;d+7;o1;x1;r");
        BarometerClub other = Clubs.of(0, 1);
        other.join(5);
        other.wager(0, 950, 9);
        other.wager(2, 900, 4);
        other.tap(2);
        other.day(-30);
        other.bottle(1);
        other.move(1, 3);
        other.exchange(0, 2);
        other.day(7);
        other.letOut(1);
        other.leave(1);
        other.read();
        due("members", Clubs.all(club, 0) + Clubs.all(club, 1) + Clubs.all(club, 6),
                Clubs.all(other, 0) + Clubs.all(other, 1) + Clubs.all(other, 6));
        due("the weather", Clubs.weather(club), Clubs.weather(other));
        for (int what = 0; what <= 8; what++) {
            due("account " + what, club.account(what), other.account(what));
        }
    }

    @Sentence(promise = 0, value = "The commands are carried out as the methods would, all of them or none.")
    static void noneIfTheLastIsRefused() {
        BarometerClub club = Clubs.of(0, 1);
        Check.refused("the last", club, 14, 0, 11,
                () -> Clubs.run(club, "j5;w0=950/9;w2=900/4;t2;d-30;b1;m1>3;s0&2;d+7;o1;r;r"));
        due("members", Clubs.all(club, 0) + " at " + Clubs.all(club, 1), "50 50 at 0 1");
        due("the weather", Clubs.weather(club), "1000 0 0 0 0 0");
        due("pot, wagers, readings, won, paid", club.account(2) + club.account(3) + club.account(4) + club.account(5)
                + club.account(6), 0);
        due("coins brought", club.account(7), 100);
    }

    @Sentence(promise = 0, value = "Something is refused for the first that applies of the reasons that its method "
            + "names, in the order in which it names them:")
    static void theFirstReasonThatAppliesIsTold() {
        BarometerClub club = Clubs.of(0, 1, 2, 3, 4, 5);
        Check.refused("join: 1 before 2", club, 1, 0, 0, () -> club.join(10));
        Check.refused("join: 2 before 3", club, 2, 6, 0, () -> club.join(0));
        Check.refused("move: 4 before 1", club, 4, 6, 0, () -> club.move(6, 10));
        Check.refused("move: 4 before 3", club, 4, 6, 0, () -> club.move(6, 0));
        Check.refused("exchange: 4 before 6", club, 4, 6, 0, () -> club.exchange(6, 6));
        Check.refused("wager: 4 before 1", club, 4, 6, 0, () -> club.wager(6, 699, 10));
        Check.refused("tap: 4 before 8", club, 4, 6, 0, () -> club.tap(6));
        Check.refused("bottle: 4 before 10", club, 4, 6, 0, () -> club.bottle(6));
        Check.refused("letOut: 4 before 12", club, 4, 6, 0, () -> club.letOut(6));
        Clubs.drain(club, 0, 3);
        Check.refused("move: 1 before 5", club, 1, 0, 0, () -> club.move(0, 10));
        Check.refused("move: 3 before 5", club, 3, 5, 0, () -> club.move(0, 5));
        Check.refused("wager: 1 before 5", club, 1, 0, 0, () -> club.wager(0, 1101, 9));
        club.wager(0, 900, 3);
        Check.refused("wager: 1 before 7", club, 1, 0, 0, () -> club.wager(0, 699, 1));
        Check.refused("wager: 7 before 5", club, 7, 900, 0, () -> club.wager(0, 901, 9));
        Check.refused("tap: 8 is not told of who has wagered", club, 5, 1, 0, () -> club.tap(0));
        club.undo();
        club.wager(0, 900, 2);
        club.tap(0);
        Check.refused("tap: 9 before 5", club, 9, 2, 0, () -> club.tap(0));
        club.read();
        Check.refused("tap: 8 before 5", club, 8, 0, 0, () -> club.tap(0));
    }

    @Sentence(promise = 0, value = "Something is refused for the first that applies of the reasons that its method "
            + "names, in the order in which it names them:")
    static void theFirstReasonOfTheWeatherIsTold() {
        BarometerClub club = Clubs.atPressure(900, 0, 1);
        Check.refused("day: 1 before 13, below", club, 1, 0, 0, () -> club.day(-41));
        Check.refused("letOut: 12 before 13", club, 12, 0, 0, () -> club.letOut(0));
        Clubs.bringTo(club, 1100);
        Check.refused("day: 1 before 13, above", club, 1, 0, 0, () -> club.day(41));
        Clubs.giveBottles(club, 0, 3);
        Check.refused("bottle: 10 before 11", club, 10, 20, 0, () -> club.bottle(0));
    }

    @Sentence(promise = 0, value = "1, a number is out of range;")
    static void reason1() {
        BarometerClub club = Clubs.of(0);
        Check.refused("height", club, 1, 0, 0, () -> club.join(-1));
        Check.refused("height of a move", club, 1, 0, 0, () -> club.move(0, 10));
        Check.refused("guess", club, 1, 0, 0, () -> club.wager(0, 1101, 1));
        Check.refused("stake", club, 1, 0, 0, () -> club.wager(0, 1100, 0));
        Check.refused("change", club, 1, 0, 0, () -> club.day(41));
    }

    @Sentence(promise = 0, value = "2, there are 6 members: how many;")
    static void reason2() {
        BarometerClub club = Clubs.of(0, 1, 2, 3, 4);
        due("with 5 members", club.join(5), 5);
        Check.refused("with 6 members", club, 2, 6, 0, () -> club.join(6));
        club.leave(3);
        due("with 5 members again", club.join(6), 5);
    }

    @Sentence(promise = 0, value = "3, the height is owned: by whom;")
    static void reason3() {
        BarometerClub club = Clubs.of(9, 8, 7, 6, 5);
        for (int member = 0; member < 5; member++) {
            int owner = member;
            Check.refused("join", club, 3, owner, 0, () -> club.join(9 - owner));
            Check.refused("move", club, 3, owner, 0, () -> club.move(0, 9 - owner));
        }
    }

    @Sentence(promise = 0, value = "4, there is no such member: how many there are;")
    static void reason4() {
        for (int count = 0; count <= 6; count++) {
            BarometerClub club = new BarometerClub();
            for (int height = 0; height < count; height++) {
                club.join(height);
            }
            dueNoSuchMember(club, count);
        }
    }

    @Sentence(promise = 0, value = "4, there is no such member: how many there are;")
    static void reason4BehindThoseWhoLeft() {
        for (int count = 5; count >= 0; count--) {
            BarometerClub club = Clubs.of(0, 1, 2, 3, 4, 5);
            while (club.account(0) > count) {
                club.leave(club.account(0) % 2 == 0 ? club.account(0) - 1 : 0);
            }
            dueNoSuchMember(club, count);
        }
    }

    private static void dueNoSuchMember(BarometerClub club, int count) {
        for (int member : new int[] {count, -1, 6, Integer.MAX_VALUE, Integer.MIN_VALUE}) {
            Check.refused("leave", club, 4, count, 0, () -> club.leave(member));
            Check.refused("move", club, 4, count, 0, () -> club.move(member, 9));
            Check.refused("exchange", club, 4, count, 0, () -> club.exchange(member, 0));
            Check.refused("exchange with", club, 4, count, 0, () -> club.exchange(0, member));
            Check.refused("wager", club, 4, count, 0, () -> club.wager(member, 900, 1));
            Check.refused("tap", club, 4, count, 0, () -> club.tap(member));
            Check.refused("bottle", club, 4, count, 0, () -> club.bottle(member));
            Check.refused("letOut", club, 4, count, 0, () -> club.letOut(member));
        }
    }

    @Sentence(promise = 0, value = "5, there are too few coins: how many are lacking;")
    static void reason5() {
        for (int coins = 0; coins <= 8; coins++) {
            BarometerClub club = Clubs.of(0);
            Clubs.drain(club, 0, coins);
            for (int stake = coins + 1; stake <= 9; stake++) {
                int more = stake;
                Check.refused("a stake", club, 5, stake - coins, 0, () -> club.wager(0, 900, more));
            }
            for (int height = coins / 2 + 1; height <= 9; height++) {
                int far = height;
                Check.refused("a move", club, 5, 2 * height - coins, 0, () -> club.move(0, far));
            }
            if (coins > 0) {
                club.wager(0, 900, coins);
                Check.refused("a tap", club, 5, 1, 0, () -> club.tap(0));
            }
        }
    }

    @Sentence(promise = 0, value = "6, both members are one: the member;")
    static void reason6() {
        BarometerClub club = Clubs.of(0, 1, 2, 3, 4, 5);
        for (int member = 0; member < 6; member++) {
            int one = member;
            Check.refused("member " + member, club, 6, one, 0, () -> club.exchange(one, one));
        }
    }

    @Sentence(promise = 0, value = "7, the member has wagered: the guess;")
    static void reason7() {
        for (int guess : new int[] {700, 964, 1100}) {
            BarometerClub club = Clubs.of(0);
            club.wager(0, guess, 3);
            Check.refused("wager", club, 7, guess, 0, () -> club.wager(0, 800, 2));
            Check.refused("leave", club, 7, guess, 0, () -> club.leave(0));
            club.tap(0);
            Check.refused("leave behind a tap", club, 7, guess, 0, () -> club.leave(0));
        }
    }

    @Sentence(promise = 0, value = "8, the member has not wagered;")
    static void reason8() {
        BarometerClub club = Clubs.of(0, 1);
        club.wager(1, 900, 1);
        Check.refused("another one has", club, 8, 0, 0, () -> club.tap(0));
        club.read();
        Check.refused("behind the reading", club, 8, 0, 0, () -> club.tap(1));
    }

    @Sentence(promise = 0, value = "9, the member has tapped: the stake;")
    static void reason9() {
        for (int stake = 1; stake <= 9; stake++) {
            BarometerClub club = Clubs.of(0);
            club.wager(0, 900, stake);
            club.tap(0);
            Check.refused("stake " + stake, club, 9, stake, 0, () -> club.tap(0));
        }
    }

    @Sentence(promise = 0, value = "10, there is no storm: the latest change;")
    static void reason10() {
        BarometerClub club = Clubs.of(0);
        Check.refused("no day yet", club, 10, 0, 0, () -> club.bottle(0));
        for (int change : new int[] {40, -19, 0}) {
            club.day(change);
            Check.refused("a day with " + change, club, 10, change, 0, () -> club.bottle(0));
        }
        club.day(-40);
        club.bottle(0);
        Check.refused("it is in a bottle", club, 10, -40, 0, () -> club.bottle(0));
        club.letOut(0);
        Check.refused("a bottle was let out", club, 10, -15, 0, () -> club.bottle(0));
    }

    @Sentence(promise = 0, value = "11, the member has 3 bottles: how many;")
    static void reason11() {
        BarometerClub club = Clubs.of(0, 1);
        Clubs.giveBottles(club, 1, 3);
        club.day(-20);
        Check.refused("three", club, 11, 3, 0, () -> club.bottle(1));
        due("who has none", club.bottle(0), 1);
    }

    @Sentence(promise = 0, value = "12, the member has no bottle;")
    static void reason12() {
        BarometerClub club = Clubs.of(0, 1);
        Clubs.giveBottles(club, 1, 1);
        Check.refused("another one has", club, 12, 0, 0, () -> club.letOut(0));
        club.letOut(1);
        Check.refused("the only one was let out", club, 12, 0, 0, () -> club.letOut(1));
    }

    @Sentence(promise = 0, value = "13, the pressure would be out of range: what it would be;")
    static void reason13() {
        BarometerClub club = Clubs.atPressure(900, 0);
        for (int change = -40; change < 0; change++) {
            int fall = change;
            Check.refused("a day with " + change, club, 13, 900 + change, 0, () -> club.day(fall));
        }
        Clubs.bringTo(club, 1100);
        for (int change = 1; change <= 40; change++) {
            int rise = change;
            Check.refused("a day with " + change, club, 13, 1100 + change, 0, () -> club.day(rise));
        }
        Clubs.giveBottles(club, 0, 1);
        for (int pressure = 900; pressure < 915; pressure += 7) {
            Clubs.bringTo(club, pressure);
            Check.refused("a bottle at " + pressure, club, 13, pressure - 15, 0, () -> club.letOut(0));
        }
    }

    @Sentence(promise = 0, value = "14, nobody has wagered: what is in the pot.")
    static void reason14() {
        BarometerClub club = new BarometerClub();
        Check.refused("without members", club, 14, 0, 0, () -> club.read());
        club.join(0);
        Check.refused("with an empty pot", club, 14, 0, 0, () -> club.read());
        club.move(0, 9);
        Check.refused("with a pot", club, 14, 18, 0, () -> club.read());
    }

    @Sentence(promise = 0, value = "If nothing else is told, the detail is 0.")
    static void theDetailIsZero() {
        BarometerClub club = Clubs.of(5);
        Check.refused("a detail before", club, 10, 0, 0, () -> club.bottle(0));
        Check.refused("5 is owned by 0", club, 3, 0, 0, () -> club.join(5));
        Check.refused("no such member", club, 4, 1, 0, () -> club.tap(1));
        Check.refused("1 has no detail", club, 1, 0, 0, () -> club.day(41));
        Check.refused("no such member", club, 4, 1, 0, () -> club.tap(1));
        Check.refused("8 has none", club, 8, 0, 0, () -> club.tap(0));
        Check.refused("no such member", club, 4, 1, 0, () -> club.tap(1));
        Check.refused("12 has none", club, 12, 0, 0, () -> club.letOut(0));
    }

    @Sentence(promise = 0, value = "The reason is kept with the index of the command of a text, from 0, or 0 for "
            + "another call.")
    static void theIndexOfTheCommand() {
        for (int index = 0; index < 15; index++) {
            BarometerClub club = new BarometerClub();
            String text = "d+0;".repeat(index) + "x9";
            Check.refused(text, club, 4, 0, index, () -> Clubs.run(club, text));
            Check.refused("another call", club, 4, 0, 0, () -> club.leave(9));
        }
    }

    @Sentence(promise = 0, value = "What can be undone are the successful calls of join, leave, move, exchange, wager, "
            + "tap, day, bottle, letOut, read and commands.")
    static void elevenKindsOfCallsCanBeUndone() {
        dueUndone("join", club -> club.join(9));
        dueUndone("leave", club -> club.leave(0));
        dueUndone("move", club -> club.move(0, 9));
        dueUndone("exchange", club -> club.exchange(0, 3));
        dueUndone("wager", club -> club.wager(0, 900, 1));
        dueUndone("tap", club -> club.tap(3));
        dueUndone("day", club -> club.day(0));
        dueUndone("bottle", club -> club.bottle(0));
        dueUndone("letOut", club -> club.letOut(3));
        dueUndone("read", club -> club.read());
        dueUndone("commands", club -> Clubs.run(club, "d+1;j9;r"));
    }

    private interface Change {
        int on(BarometerClub club);
    }

    private static void dueUndone(String what, Change change) {
        BarometerClub club = Clubs.of(0, 1, 2, 3);
        Clubs.giveBottles(club, 3, 1);
        club.wager(3, 900, 1);
        club.day(-20);
        club.save();
        club.restore();
        String before = State.ofClub(club);
        due(what + " succeeds", Check.answer(() -> change.on(club)) instanceof Integer, true);
        due(what + " changes something", State.ofClub(club).equals(before), false);
        due(what + " can be undone", club.account(9), 1);
        due(what + " is undone", club.undo(), 0);
        due("what there was before " + what, State.ofClub(club), before);
    }

    @Sentence(promise = 0, value = "What can be undone are the successful calls of join, leave, move, exchange, wager, "
            + "tap, day, bottle, letOut, read and commands.")
    static void noOtherCallCanBeUndone() {
        BarometerClub club = Clubs.of(0, 1);
        club.wager(0, 900, 1);
        club.save();
        club.append('r');
        club.line(0);
        club.board();
        club.wouldWin(7);
        club.changeFor(0);
        Check.refused("join", club, 3, 0, 0, () -> club.join(0));
        Check.refused("a text", club, 14, 0, 1, () -> Clubs.run(club, ";r"));
        Check.thrown("a text with a fault", ARGUMENT, club::commands);
        due("three calls", club.account(9), 3);
        due("the wager is undone", club.undo() * 10 + club.account(3), 20);
    }

    @Sentence(promise = 0, value = "What there was before each of the latest 8 is kept; restore forgets it.")
    static void eightAndNoNinth() {
        for (int changes = 0; changes <= 20; changes++) {
            BarometerClub club = new BarometerClub();
            for (int day = 1; day <= changes; day++) {
                club.day(day % 2 == 0 ? -day : day);
                due("kept behind " + day, club.account(9), Math.min(day, 8));
            }
            int kept = Math.min(changes, 8);
            for (int back = 1; back <= kept; back++) {
                due("can still be undone", club.undo(), kept - back);
                due("days", club.weather(3), changes - back);
            }
            Check.thrown("one more of " + changes, STATE, club::undo);
            due("the ninth stays", club.weather(3), changes - kept);
        }
    }

    @Sentence(promise = 0, value = "What there was before each of the latest 8 is kept; restore forgets it.")
    static void eightBehindUndoAndMoreChanges() {
        BarometerClub club = new BarometerClub();
        for (int day = 0; day < 13; day++) {
            club.day(1);
        }
        for (int back = 0; back < 5; back++) {
            club.undo();
        }
        due("three are left", club.account(9) * 100 + club.weather(3), 308);
        for (int day = 0; day < 4; day++) {
            club.day(-1);
        }
        due("seven", club.account(9) * 10000 + club.weather(0), 71004);
        club.day(-1);
        club.day(-1);
        due("eight again", club.account(9) * 10000 + club.weather(0), 81002);
        int[] pressures = {1003, 1004, 1005, 1006, 1007, 1008, 1007, 1006};
        for (int back = 0; back < 8; back++) {
            due("left", club.undo(), 7 - back);
            due("pressure", club.weather(0), pressures[back]);
        }
        Check.thrown("a ninth", STATE, club::undo);
    }

    @Sentence(promise = 0, value = "What there was before each of the latest 8 is kept; restore forgets it.")
    static void eightBehindRefusedCalls() {
        for (int changes = 8; changes <= 20; changes++) {
            BarometerClub club = new BarometerClub();
            for (int day = 1; day <= changes; day++) {
                club.day(day % 2 == 0 ? -day : day);
            }
            Check.refused("a call", club, 1, 0, 0, () -> club.day(41));
            Check.refused("a text", club, 14, 0, 1, () -> Clubs.run(club, "d+1;r"));
            Check.thrown("a fault", ARGUMENT, () -> Clubs.run(club, "d+1;"));
            for (int back = 1; back <= 8; back++) {
                due("can still be undone", club.undo(), 8 - back);
                due("days", club.weather(3), changes - back);
            }
        }
    }

    @Sentence(promise = 0, value = "What there was before each of the latest 8 is kept; restore forgets it.")
    static void restoreForgetsIt() {
        BarometerClub club = new BarometerClub();
        club.save();
        for (int day = 0; day < 9; day++) {
            club.day(1);
        }
        club.restore();
        due("none", club.account(9), 0);
        Check.thrown("undo", STATE, club::undo);
        due("nothing was undone", club.weather(3), 0);
        club.day(5);
        due("one behind restore", club.undo() * 10 + club.weather(3), 0);
        Check.thrown("undo again", STATE, club::undo);
    }

    @Sentence(promise = 0, value = "The text buffer, the fault position, the reason and the line do not belong to it, "
            + "and stay.")
    static void fourThingsStayBehindUndoAndRestore() {
        BarometerClub club = Clubs.of(3);
        club.save();
        club.day(1);
        Check.thrown("a fault", ARGUMENT, () -> Clubs.run(club, "d+1;d"));
        Check.refused("a reason", club, 4, 1, 2, () -> Clubs.run(club, "d+1;d+2;x5"));
        Check.thrown("a fault again", ARGUMENT, () -> Clubs.run(club, "d+1;d"));
        Clubs.type(club, "d+7;d+");
        club.line(0);
        club.undo();
        dueFourThings(club, "behind undo");
        club.join(4);
        club.restore();
        dueFourThings(club, "behind restore");
        club.append('8');
        due("the text goes on", club.commands() * 10000 + club.weather(0), 21015);
    }

    private static void dueFourThings(BarometerClub club, String when) {
        due("the text " + when, club.account(10), 6);
        due("the fault position " + when, club.faultPosition(), 5);
        due("the reason " + when, club.reason(0) * 100 + club.reason(1) * 10 + club.reason(2), 412);
        due("the line " + when, Clubs.written(club), "50@3");
    }

    @Sentence(promise = 0, value = "A call that throws an exception leaves the state unchanged, unless stated "
            + "otherwise.")
    static void statedOtherwise() {
        BarometerClub club = Clubs.of(3);
        Clubs.type(club, "r");
        Check.refused("the reason is kept", club, 3, 0, 0, () -> club.join(3));
        due("but the text stays", club.account(10), 1);
        Check.refused("the buffer is empty afterwards", club, 14, 0, 0, () -> club.commands());
        due("the buffer", club.account(10), 0);
        Check.thrown("also behind a fault", ARGUMENT, () -> Clubs.run(club, "r;"));
        due("the buffer again", club.account(10), 0);
        due("the fault position is that of the latest call", club.faultPosition(), 2);
        due("all else", State.ofClub(club), State.ofClub(Clubs.of(3)));
    }

    @Sentence(promise = 0, value = "If several conditions of a method are fulfilled, the one that is listed first "
            + "determines the exception.")
    static void theFirstConditionDeterminesTheException() {
        BarometerClub club = Clubs.of(3);
        Check.thrown("memberOf", IndexOutOfBoundsException.class, () -> club.memberOf(1, 7));
        Check.thrown("memberOf below", IndexOutOfBoundsException.class, () -> club.memberOf(-1, -1));
        Check.thrown("off", IndexOutOfBoundsException.class, () -> club.off(1));
        Check.thrown("owner", ARGUMENT, () -> club.owner(10));
        Check.thrown("changeFor", IndexOutOfBoundsException.class, () -> club.changeFor(1));
        Check.thrown("nearestFree", IndexOutOfBoundsException.class, () -> club.nearestFree(1));
        Check.thrown("ranked", ARGUMENT, () -> club.ranked(4, 1));
        Check.thrown("ranked below", ARGUMENT, () -> club.ranked(-1, -1));
        Check.thrown("ranked by a measure that is there", NoSuchElementException.class, () -> club.ranked(3, 1));
        Check.thrown("reason", ARGUMENT, () -> club.reason(3));
        Check.thrown("reason below", ARGUMENT, () -> club.reason(-1));
        Check.thrown("a text with a fault whose first command would be refused", ARGUMENT,
                () -> Clubs.run(club, "x5;r;"));
        Check.thrown("no reason is kept by it", NoSuchElementException.class, () -> club.reason(0));
    }

    public static void main(String[] args) {
        Sentences.run(TermsOfTextsTest.class);
    }
}
