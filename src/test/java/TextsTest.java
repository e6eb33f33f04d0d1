import java.util.NoSuchElementException;

/** Promises 27 to 33: the text buffer, commands, faults, reasons, and lines. */
public final class TextsTest {
    private static final Class<IndexOutOfBoundsException> INDEX = IndexOutOfBoundsException.class;
    private static final Class<IllegalArgumentException> ARGUMENT = IllegalArgumentException.class;
    private static final Class<NoSuchElementException> ELEMENT = NoSuchElementException.class;

    private static void due(String what, Object got, Object want) {
        Check.due(what, got, want);
    }

    private static String written(BarometerClub club, int length) {
        StringBuilder signs = new StringBuilder();
        for (int index = 0; index < length; index++) {
            signs.append(club.character(index));
        }
        Check.thrown("33 behind the line", INDEX, () -> club.character(length));
        return signs.toString();
    }

    private static void promise27Append() {
        BarometerClub club = new BarometerClub();
        due("27 first", club.append('j'), 1);
        due("27 any character", club.append((char) 65535), 2);
        for (int length = 3; length <= 60; length++) {
            due("27 length", club.append('0'), length);
        }
        Check.thrown("27 full", IllegalStateException.class, () -> club.append(';'));
        due("27 stays 60", club.account(10), 60);
        Check.thrown("27 text with a fault", ARGUMENT, club::commands);
        due("27 empty afterwards", club.append('r'), 1);
    }

    private static void promise28Commands() {
        BarometerClub club = new BarometerClub();
        due("28 joins", Clubs.run(club, "j3;j0;j5;j9"), 4);
        due("28 move and exchange", Clubs.run(club, "m1>1;s0&2"), 2);
        due("28 moved", club.memberOf(1, 1) * 100 + club.memberOf(0, 1) * 10 + club.memberOf(2, 1), 153);
        due("28 wagers, tap, days, bottles", Clubs.run(club, "w0=0940/3;w1=700/9;t1;d-25;b2;d+5;o2;x3"), 8);
        due("28 guess of four digits", club.memberOf(0, 2), 940);
        due("28 guess of three digits", club.memberOf(1, 2), 700);
        due("28 stake", club.memberOf(1, 3), 9);
        due("28 tapped", club.memberOf(1, 4), 1);
        due("28 pressure", club.weather(0), 965);
        due("28 storms", club.weather(4) * 10 + club.weather(5), 11);
        due("28 left", club.account(0), 3);
        due("28 one change each", club.account(9), 3);
        due("28 reads", Clubs.run(club, "r"), 1);
        due("28 won", club.memberOf(0, 6), 1);
        due("28 empty afterwards", club.account(10), 0);
        due("28 a day of two digits with 0 first", Clubs.run(club, "d+07") * 1000 + club.weather(1), 1007);
        due("28 a day of one digit", Clubs.run(club, "d-8") * 1000 + club.weather(1), 992);
        due("28 a day with -0", Clubs.run(club, "d-0") * 1000 + club.weather(1), 1000);
        due("28 four digits above", Clubs.run(club, "w0=1100/1"), 1);
        due("28 three more, undone as one", Clubs.run(club, "x1;j2;d+1"), 3);
        club.undo();
        due("28 undone", club.account(0) * 10 + club.memberOf(1, 1), 31);
        due("28 as many as fit", Clubs.run(club, "d+0;d+0;d+0;d+0;d+0;d+0;d+0;d+0;d+0;d+0;d+0;d+0;d+0;d+0;d+0"), 15);
        due("28 one change again", club.account(9), 8);
    }

    private static void promise28Refused() {
        BarometerClub club = Clubs.of(3);
        Check.refused("28 second", club, 3, 1, 1, () -> Clubs.run(club, "j5;j5;j6"));
        due("28 none is carried out", club.account(0), 1);
        due("28 nothing brought", club.account(7), 50);
        due("28 empty though refused", club.account(10), 0);
        due("28 no fault", club.faultPosition(), -1);
        due("28 refused can't be undone", club.account(9), 1);
        Check.refused("28 as many as there are then", club, 4, 2, 2, () -> Clubs.run(club, "d+1;j5;x2"));
        due("28 the day is taken back", club.weather(0) + club.weather(3), 1000);
        Check.refused("28 first", club, 4, 1, 0, () -> Clubs.run(club, "t9"));
        Check.refused("28 change", club, 1, 0, 1, () -> Clubs.run(club, "d+40;d-41"));
        Check.refused("28 guess", club, 1, 0, 0, () -> Clubs.run(club, "w0=699/1"));
        Check.refused("28 greatest guess", club, 1, 0, 0, () -> Clubs.run(club, "w0=9999/1"));
        Check.refused("28 stake", club, 1, 0, 0, () -> Clubs.run(club, "w0=700/0"));
        Check.refused("28 pressure", club, 13, 1120, 3, () -> Clubs.run(club, "d+30;d+30;d+30;d+30"));
        Check.refused("28 read", club, 14, 0, 2, () -> Clubs.run(club, "w0=900/1;r;r"));
        Check.refused("28 move", club, 3, 0, 0, () -> Clubs.run(club, "m0>3"));
        Check.refused("28 exchange", club, 6, 0, 0, () -> Clubs.run(club, "s0&0"));
        Check.refused("28 bottle", club, 10, 3, 1, () -> Clubs.run(club, "d+3;b0"));
        Check.refused("28 letOut", club, 12, 0, 0, () -> Clubs.run(club, "o0"));
        due("28 nothing but join", club.undo(), 0);
    }

    private static void dueFault(String text, int position) {
        BarometerClub club = Clubs.of(3, 4);
        Clubs.run(club, "d+0");
        Clubs.type(club, text);
        Check.thrown("28 fault of " + text, ARGUMENT, club::commands);
        due("29 fault of " + text, club.faultPosition(), position);
        due("28 empty behind " + text, club.account(10), 0);
        due("28 nothing done by " + text, club.account(9), 3);
        Check.thrown("28 no reason by " + text, ELEMENT, () -> club.reason(0));
        due("28 a text behind " + text, Clubs.run(club, "d+1"), 1);
        due("29 none any more", club.faultPosition(), -1);
    }

    private static void promise29FaultPosition() {
        String[] texts = {
            "0:", "0:;", "0:a", "0: j0", "0:J0", "1:j", "1:ja", "2:j12", "2:j1 ", "3:j1;", "3:j1;;", "3:j1;k", "2:j1j2",
            "1:x", "1:x-", "1:m", "2:m0", "3:m0>", "2:m0&1", "3:m0>x", "4:m0>11", "2:s0", "3:s0&", "2:s0>1", "4:s0&12",
            "1:w", "2:w0", "3:w0=", "2:w0>", "4:w0=9", "5:w0=99", "6:w0=999", "7:w0=9999", "5:w0=99/1", "7:w0=99999/1",
            "7:w0=999/", "8:w0=0999/", "9:w0=0999/12", "8:w0=999/12", "7:w0=999/x", "1:t", "2:t00", "1:d", "1:d5",
            "2:d+", "2:d-", "2:d+-", "2:d++", "4:d+123", "3:d+1+", "3:d+1x", "4:d+12x", "1:b", "1:o", "1:o;", "1:r0",
            "2:r;", "2:r;\u0000", "0:\u0000", "1:j\u0660", "1:j\u0130", "1:r\uff1b", "0:+5", "4:r;r;", "5:r;r;jj",
            "1:j:", "1:j/", "59:r;r;r;r;r;r;r;r;r;r;r;r;r;r;r;r;r;r;r;r;r;r;r;r;r;r;r;r;r;rr",
            "60:r;r;r;r;r;r;r;r;r;r;r;r;r;r;r;r;r;r;r;r;r;r;r;r;r;r;r;r;r;r;"
        };
        for (String text : texts) {
            int colon = text.indexOf(':');
            dueFault(text.substring(colon + 1), Integer.parseInt(text.substring(0, colon)));
        }
        BarometerClub club = new BarometerClub();
        due("29 no such call", club.faultPosition(), -1);
        Check.thrown("28 an empty text", ARGUMENT, club::commands);
        due("29 an empty text", club.faultPosition(), 0);
        club.join(0);
        club.undo();
        due("29 stays behind undo", club.faultPosition(), 0);
        Check.thrown("29 refused", UnsupportedOperationException.class, () -> Clubs.run(club, "r"));
        due("29 no fault, though refused", club.faultPosition(), -1);
    }

    private static void promise30Reason() {
        BarometerClub club = Clubs.of(0);
        Check.thrown("30 nothing was refused", ELEMENT, () -> club.reason(0));
        Check.thrown("30 what first", ARGUMENT, () -> club.reason(3));
        Check.thrown("30 what below", ARGUMENT, () -> club.reason(-1));
        Check.refused("30 of a text", club, 4, 1, 1, () -> Clubs.run(club, "d+0;x1"));
        Check.refused("30 of a call", club, 3, 0, 0, () -> club.join(0));
        club.day(3);
        club.undo();
        club.save();
        club.restore();
        due("30 stays", club.reason(0), 3);
        Check.thrown("30 a fault is no refusal", ARGUMENT, club::commands);
        due("30 stays behind a fault", club.reason(0), 3);
        Check.thrown("30 what above", ARGUMENT, () -> club.reason(3));
    }

    private static void promise31Line() {
        BarometerClub club = Clubs.of(3, 7);
        due("31 coins and height", written(club, club.line(0)), "50@3");
        club.wager(0, 964, 3);
        due("31 wagered", written(club, club.line(0)), "47@3=964/3");
        due("31 another", written(club, club.line(1)), "50@7");
        club.tap(0);
        due("31 tapped", written(club, club.line(0)), "46@3=964/3!");
        club.wager(1, 1100, 9);
        due("31 four digits", written(club, club.line(1)), "41@7=1100/9");
        club.read();
        due("31 behind the reading", written(club, club.line(1)), "54@7");
        Check.thrown("31 nobody", INDEX, () -> club.line(2));
        Check.thrown("31 below", INDEX, () -> club.line(-1));
        due("31 the line stays", written(club, 4), "54@7");
        club.undo();
        due("31 stays behind undo", written(club, 4), "54@7");
        BarometerClub poor = Clubs.of(0, 9);
        poor.move(0, 8);
        poor.move(0, 0);
        poor.move(0, 7);
        due("31 one digit", written(poor, poor.line(0)), "4@7");
        poor.wager(0, 900, 4);
        due("31 no coins", written(poor, poor.line(0)), "0@7=900/4");
        poor.wager(1, 892, 1);
        poor.read();
        due("31 hundred", written(poor, poor.line(1)), "100@9");
    }

    private static void promise32Board() {
        BarometerClub club = new BarometerClub();
        due("32 nobody", written(club, club.board()), "..........");
        club.join(9);
        club.join(0);
        club.join(4);
        due("32 three", written(club, club.board()), "1...2....0");
        club.leave(0);
        club.move(0, 1);
        due("32 in place of the line before", written(club, club.line(0)), "48@1");
        due("32 two", written(club, club.board()), ".0..1.....");
        BarometerClub full = Clubs.of(9, 8, 7, 6, 5, 4);
        due("32 full", written(full, full.board()), "....543210");
    }

    private static void promise33Character() {
        BarometerClub club = Clubs.of(5);
        Check.thrown("33 empty at first", INDEX, () -> club.character(0));
        club.line(0);
        due("33 first", club.character(0), '5');
        due("33 last", club.character(3), '5');
        Check.thrown("33 below", INDEX, () -> club.character(-1));
        Check.thrown("33 above", INDEX, () -> club.character(4));
        Check.thrown("33 far above", INDEX, () -> club.character(Integer.MAX_VALUE));
    }

    public static void main(String[] args) {
        promise27Append();
        promise28Commands();
        promise28Refused();
        promise29FaultPosition();
        promise30Reason();
        promise31Line();
        promise32Board();
        promise33Character();
        Check.end();
    }
}
