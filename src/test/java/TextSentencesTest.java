import java.util.NoSuchElementException;

/** The sentences of the promises 27 to 33: the text buffer, commands, faults, reasons, and lines. */
public final class TextSentencesTest {
    private static final Class<IndexOutOfBoundsException> INDEX = IndexOutOfBoundsException.class;
    private static final Class<IllegalArgumentException> ARGUMENT = IllegalArgumentException.class;
    private static final Class<IllegalStateException> STATE = IllegalStateException.class;
    private static final Class<NoSuchElementException> ELEMENT = NoSuchElementException.class;

    private static void due(String what, Object got, Object want) {
        Check.due(what, got, want);
    }

    @Sentence(promise = 27, value = "Appends a character to the text buffer.")
    static void append() {
        BarometerClub club = new BarometerClub();
        club.append('d');
        club.append('-');
        club.append('7');
        due("in this order", club.commands() * 10000 + club.weather(0), 10993);
        for (char sign : new char[] {0, ' ', 127, 128, 255, 256, 65535}) {
            int length = club.account(10);
            due("any character", club.append(sign), length + 1);
        }
    }

    @Sentence(promise = 27, value = "Returns the new length of the buffer.")
    static void appendReturns() {
        BarometerClub club = new BarometerClub();
        for (int length = 1; length <= 60; length++) {
            due("length", club.append(';'), length);
            due("account", club.account(10), length);
        }
        Check.thrown("it is emptied", ARGUMENT, club::commands);
        due("1 again", club.append('r'), 1);
    }

    @Sentence(promise = 27, value = "Throws `IllegalStateException` if the buffer contains 60 characters")
    static void appendToAFullBuffer() {
        BarometerClub club = new BarometerClub();
        Clubs.type(club, "d+1;".repeat(14) + "d+1");
        due("with 59", club.append('0'), 60);
        Check.thrown("with 60", STATE, () -> club.append('0'));
        Check.thrown("with 60 once more", STATE, () -> club.append(';'));
        due("60 stay as they are", club.commands() * 10000 + club.weather(0), 151024);
        due("then it is empty", club.append('r'), 1);
    }

    @Sentence(promise = 28, value = "Carries out the commands in the text buffer, one after the other; if one is "
            + "refused, none is carried out.")
    static void oneAfterTheOther() {
        BarometerClub club = new BarometerClub();
        due("a later one needs an earlier one", Clubs.run(club, "j3;w0=964/9;r;m0>9;x0;j9"), 6);
        due("who is there", Clubs.lineOf(club, 0), "4:50@9");
        due("coins taken along", club.account(8), 38);
        due("one call that can be undone", club.account(9), 1);
        due("all of them are undone", club.undo() + club.account(0) + club.account(7), 0);
    }

    @Sentence(promise = 28, value = "Carries out the commands in the text buffer, one after the other; if one is "
            + "refused, none is carried out.")
    static void noneIfOneIsRefused() {
        String[] texts = {"x9", "x9;d+1", "d+1;x9", "d+1;x9;d+1", "d+1;d+2;d+3;x9"};
        for (String text : texts) {
            BarometerClub club = Clubs.of(0);
            club.day(-20);
            Check.refused(text, club, 4, 1, text.indexOf("x") / 4, () -> Clubs.run(club, text));
            due("the weather", Clubs.weather(club), "980 -20 1 1 1 0");
            due("two calls can be undone", club.account(9), 2);
            due("and are", club.undo() * 10000 + club.weather(0), 11000);
        }
    }

    @Sentence(promise = 28, value = "The buffer is empty afterwards, also if an exception is thrown.")
    static void emptyAfterwards() {
        BarometerClub club = Clubs.of(0);
        Clubs.run(club, "d+1");
        due("carried out", club.account(10), 0);
        Check.refused("refused", club, 4, 1, 1, () -> Clubs.run(club, "d+1;x5"));
        due("refused", club.account(10), 0);
        Check.thrown("a fault", ARGUMENT, () -> Clubs.run(club, "d+1;"));
        due("a fault", club.account(10), 0);
        Check.thrown("nothing stays in it", ARGUMENT, club::commands);
        due("one day went by", club.weather(3), 1);
        due("a shorter text", Clubs.run(club, "d+2") * 10000 + club.weather(0), 11003);
    }

    @Sentence(promise = 28, value = "Returns the number of commands.")
    static void numberOfCommands() {
        for (int number = 1; number <= 15; number++) {
            BarometerClub club = new BarometerClub();
            due("number", Clubs.run(club, "d+0" + ";d+0".repeat(number - 1)), number);
            due("days", club.weather(3), number);
        }
    }

    @Sentence(promise = 28, value = "Throws `IllegalArgumentException` if the text has a fault")
    static void textWithAFault() {
        BarometerClub club = Clubs.of(0);
        Check.thrown("an empty text", ARGUMENT, club::commands);
        Check.thrown("at the last character", ARGUMENT, () -> Clubs.run(club, "d+1;d+2;r?"));
        Check.thrown("behind a command that would be refused", ARGUMENT, () -> Clubs.run(club, "x5;"));
        due("nothing was carried out", club.weather(3), 0);
        Check.thrown("no reason is kept", ELEMENT, () -> club.reason(0));
    }

    @Sentence(promise = 28, value = "Throws `UnsupportedOperationException` if a command is refused; the reason is "
            + "kept")
    static void commandsRefused() {
        String[] texts = {"1 0 0:w0=0000/1", "1 0 1:j5;d+99", "2 6 1:j5;j6", "3 0 1:x0;j1", "4 4 1:x0;x4",
            "4 6 1:j9;t6", "5 2 5:m0>9;m0>5;m0>9;m0>5;m0>9;m0>8", "6 3 0:s3&3", "7 888 1:w3=888/8;x3",
            "7 888 1:w3=888/8;w3=900/1", "8 0 2:w3=888/8;r;t3", "9 8 2:w3=888/8;t3;t3", "10 -19 1:d-19;b0",
            "11 3 1:d-20;b4", "12 0 0:o0", "13 899 3:d-40;d-40;d-20;d-1", "13 885 3:d-40;d-40;d-20;o4",
            "14 18 1:m0>9;r"};
        for (String told : texts) {
            String text = told.substring(told.indexOf(':') + 1);
            BarometerClub club = Clubs.of(0, 1, 2, 3, 4);
            Clubs.giveBottles(club, 4, 3);
            Check.thrown(text, UnsupportedOperationException.class, () -> Clubs.run(club, text));
            String reason = club.reason(0) + " " + club.reason(1) + " " + club.reason(2);
            due("the reason of " + text, reason + ":" + text, told);
            due("no fault of " + text, club.faultPosition(), -1);
            due("nothing done by " + text, Clubs.weather(club) + Clubs.boardOf(club), "1000 20 0 6 3 010:01234.....");
        }
    }

    @Sentence(promise = 29, value = "Returns the fault position of the text of the latest call of commands.")
    static void faultPosition() {
        BarometerClub club = Clubs.of(0);
        Check.thrown("a fault", ARGUMENT, () -> Clubs.run(club, "d+1;d+2;"));
        due("the length", club.faultPosition(), 8);
        due("asked again", club.faultPosition(), 8);
        Clubs.type(club, "d+");
        due("a text that is not yet called", club.faultPosition(), 8);
        Check.thrown("a later fault", ARGUMENT, club::commands);
        due("the later one", club.faultPosition(), 2);
    }

    @Sentence(promise = 29, value = "Returns the fault position, or -1 if that text had no fault or there was no such "
            + "call.")
    static void noFaultPosition() {
        BarometerClub club = Clubs.of(0);
        due("no such call", club.faultPosition(), -1);
        Clubs.run(club, "d+1");
        due("no fault", club.faultPosition(), -1);
        Check.thrown("a fault at 0", ARGUMENT, club::commands);
        due("0", club.faultPosition(), 0);
        Check.refused("refused", club, 14, 0, 0, () -> Clubs.run(club, "r"));
        due("no fault, though refused", club.faultPosition(), -1);
        Check.thrown("a fault", ARGUMENT, () -> Clubs.run(club, "rr"));
        Clubs.run(club, "d+1");
        due("no fault again", club.faultPosition(), -1);
    }

    @Sentence(promise = 30, value = "Returns a number of the reason that is kept.")
    static void reason() {
        BarometerClub club = Clubs.of(0);
        Check.refused("the latest one", club, 3, 0, 0, () -> club.join(0));
        Check.refused("a later one", club, 4, 1, 1, () -> Clubs.run(club, "d+1;x1"));
        club.day(1);
        club.undo();
        club.join(1);
        Check.thrown("another exception", INDEX, () -> club.needle(2));
        due("it stays", club.reason(0) * 100 + club.reason(1) * 10 + club.reason(2), 411);
    }

    @Sentence(promise = 30, value = "- `what`: 0 for the reason, 1 for its detail, 2 for the index of the command")
    static void reasonWhat() {
        BarometerClub club = Clubs.of(0, 1);
        Check.thrown("refused", UnsupportedOperationException.class, () -> Clubs.run(club, "d+1;d-1;d+2;m0>1"));
        due("the reason", club.reason(0), 3);
        due("its detail", club.reason(1), 1);
        due("the index", club.reason(2), 3);
    }

    @Sentence(promise = 30, value = "Returns the number.")
    static void reasonReturns() {
        BarometerClub club = Clubs.of(0);
        club.day(-19);
        Check.thrown("refused", UnsupportedOperationException.class, () -> club.bottle(0));
        due("the reason", club.reason(0), 10);
        due("a detail below 0", club.reason(1), -19);
        due("no text", club.reason(2), 0);
    }

    @Sentence(promise = 30, value = "Throws `IllegalArgumentException` if what is not from 0 to 2")
    static void reasonWhatElse() {
        BarometerClub club = Clubs.of(0);
        for (int refused = 0; refused <= 1; refused++) {
            for (int what : new int[] {-1, 3, Integer.MIN_VALUE, Integer.MAX_VALUE}) {
                Check.thrown("what is " + what, ARGUMENT, () -> club.reason(what));
            }
            Check.thrown("refused", UnsupportedOperationException.class, () -> club.join(0));
        }
    }

    @Sentence(promise = 30, value = "Throws `NoSuchElementException` if nothing was refused")
    static void reasonOfNothing() {
        BarometerClub club = Clubs.of(0);
        Check.thrown("a fault is no refusal", ARGUMENT, () -> Clubs.run(club, "x9;"));
        Check.thrown("nothing to restore", STATE, club::restore);
        for (int what = 0; what <= 2; what++) {
            int number = what;
            Check.thrown("what is " + what, ELEMENT, () -> club.reason(number));
        }
        Check.refused("refused", club, 1, 0, 0, () -> club.join(10));
    }

    @Sentence(promise = 31, value = "Writes a member, in place of the line before: the coins, \"@\" and the height, "
            + "and, if the member has wagered, \"=\" and the guess, \"/\" and the stake, and \"!\" if the member has "
            + "tapped; as in \"47@3=964/3!\".")
    static void line() {
        BarometerClub club = Clubs.of(3, 9);
        Clubs.drain(club, 0, 48);
        club.join(0);
        due("coins and height", Clubs.lineOf(club, 0), "4:48@3");
        club.save();
        club.wager(0, 964, 3);
        due("wagered", Clubs.lineOf(club, 0), "10:45@3=964/3");
        due("another one", Clubs.lineOf(club, 2), "4:50@0");
        club.tap(0);
        due("tapped", Clubs.lineOf(club, 0), "11:44@3=964/3!");
        club.read();
        due("behind the reading", Clubs.lineOf(club, 0), "4:44@3");
    }

    @Sentence(promise = 31, value = "Writes a member, in place of the line before: the coins, \"@\" and the height, "
            + "and, if the member has wagered, \"=\" and the guess, \"/\" and the stake, and \"!\" if the member has "
            + "tapped; as in \"47@3=964/3!\".")
    static void lineOfTheDocument() {
        BarometerClub club = Clubs.of(3, 4);
        club.wager(0, 964, 1);
        club.wager(1, 900, 1);
        club.read();
        due("51 coins", Clubs.lineOf(club, 0), "4:51@3");
        club.wager(0, 964, 3);
        due("without a tap", Clubs.lineOf(club, 0), "10:48@3=964/3");
        club.tap(0);
        due("that of the document", Clubs.lineOf(club, 0), "11:47@3=964/3!");
    }

    @Sentence(promise = 31, value = "Writes a member, in place of the line before: the coins, \"@\" and the height, "
            + "and, if the member has wagered, \"=\" and the guess, \"/\" and the stake, and \"!\" if the member has "
            + "tapped; as in \"47@3=964/3!\".")
    static void lineWithAsManyDigitsAsNeeded() {
        for (int coins : new int[] {0, 1, 9, 10, 11, 48}) {
            BarometerClub club = Clubs.of(9);
            Clubs.drain(club, 0, coins);
            due(coins + " coins", Clubs.lineOf(club, 0), (coins < 10 ? 3 : 4) + ":" + coins + "@9");
        }
        BarometerClub rich = Clubs.of(0, 1);
        Clubs.drain(rich, 1, 1);
        rich.wager(0, 900, 1);
        rich.read();
        due("99 coins", Clubs.lineOf(rich, 0), "4:99@0");
        rich.wager(1, 988, 1);
        rich.wager(0, 1000, 1);
        due("no coins, and a guess of three digits", Clubs.lineOf(rich, 1), "9:0@1=988/1");
        rich.tap(0);
        due("97 coins, and a guess of four digits", Clubs.lineOf(rich, 0), "12:97@0=1000/1!");
        rich.undo();
        rich.undo();
        rich.undo();
        rich.join(9);
        rich.move(2, 8);
        rich.wager(0, 1100, 1);
        rich.read();
        due("101 coins", Clubs.lineOf(rich, 0), "5:101@0");
        rich.wager(0, 700, 1);
        due("100 coins", Clubs.lineOf(rich, 0), "11:100@0=700/1");
    }

    @Sentence(promise = 31, value = "Returns the length of the line.")
    static void lineReturns() {
        BarometerClub club = Clubs.of(0);
        due("four", club.line(0), 4);
        club.wager(0, 1000, 9);
        due("eleven", club.line(0), 11);
        club.tap(0);
        due("twelve", club.line(0), 12);
        Check.thrown("no more", INDEX, () -> club.character(12));
        due("the last one", club.character(11), '!');
    }

    @Sentence(promise = 31, value = "Throws `IndexOutOfBoundsException` if there is no such member")
    static void lineOfStrangers() {
        BarometerClub club = new BarometerClub();
        Check.thrown("nobody is there", INDEX, () -> club.line(0));
        for (int height = 0; height < 6; height++) {
            club.join(height);
            due("the last one", club.line(height), 4);
            for (int member : new int[] {height + 1, -1, Integer.MIN_VALUE, Integer.MAX_VALUE}) {
                Check.thrown("member " + member, INDEX, () -> club.line(member));
            }
        }
    }

    @Sentence(promise = 32, value = "Writes the heights, in place of the line before: for each from 0 on \".\" if "
            + "nobody owns it, or the number of the member who does.")
    static void board() {
        BarometerClub club = new BarometerClub();
        due("nobody", Clubs.boardOf(club), "10:..........");
        int[] heights = {9, 0, 4, 5, 1, 8};
        String[] boards = {"10:.........0", "10:1........0", "10:1...2....0", "10:1...23...0", "10:14..23...0",
            "10:14..23..50"};
        for (int member = 0; member < 6; member++) {
            club.join(heights[member]);
            due("with member " + member, Clubs.boardOf(club), boards[member]);
        }
        club.leave(0);
        due("numbers become less", Clubs.boardOf(club), "10:03..12..4.");
        due("in place of it", Clubs.lineOf(club, 4), "4:50@8");
    }

    @Sentence(promise = 32, value = "Returns the length of the line.")
    static void boardReturns() {
        BarometerClub club = Clubs.of(0);
        club.wager(0, 1000, 9);
        club.tap(0);
        due("a longer line before", club.line(0), 12);
        due("ten", club.board(), 10);
        Check.thrown("nothing is left of the longer one", INDEX, () -> club.character(10));
        due("the last one", club.character(9), '.');
    }

    @Sentence(promise = 33, value = "Returns a character of the line, which is empty at first.")
    static void character() {
        BarometerClub club = Clubs.of(7);
        Check.thrown("empty at first", INDEX, () -> club.character(0));
        club.line(0);
        due("the coins", "" + club.character(0) + club.character(1), "50");
        club.move(0, 8);
        due("what was written stays", club.character(3), '7');
    }

    @Sentence(promise = 33, value = "- `index`: the index, from 0")
    static void characterIndex() {
        BarometerClub club = Clubs.of(2);
        club.line(0);
        String line = "50@2";
        for (int index = 0; index < line.length(); index++) {
            due("index " + index, club.character(index), line.charAt(index));
        }
    }

    @Sentence(promise = 33, value = "Returns the character.")
    static void characterReturns() {
        BarometerClub club = Clubs.of(0, 9);
        club.board();
        due("the first one", club.character(0), '0');
        due("one between", club.character(5), '.');
        due("the last one", club.character(9), '1');
    }

    @Sentence(promise = 33, value = "Throws `IndexOutOfBoundsException` if there is no such index")
    static void characterAtNoIndex() {
        BarometerClub club = Clubs.of(0);
        for (int length : new int[] {0, 4, 10}) {
            if (length == 4) {
                club.line(0);
            } else if (length == 10) {
                club.board();
            }
            for (int index : new int[] {-1, length, Integer.MIN_VALUE, Integer.MAX_VALUE}) {
                Check.thrown("index " + index + " of " + length, INDEX, () -> club.character(index));
            }
            due("as many as there are", Clubs.written(club).length(), length);
        }
    }

    public static void main(String[] args) {
        Sentences.run(TextSentencesTest.class);
    }
}
