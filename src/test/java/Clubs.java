/** Clubs in a certain state, and what they write, for the tests. */
final class Clubs {
    private Clubs() {
    }

    static BarometerClub of(int... heights) {
        BarometerClub club = new BarometerClub();
        for (int height : heights) {
            club.join(height);
        }
        return club;
    }

    static BarometerClub atPressure(int pressure, int... heights) {
        BarometerClub club = of(heights);
        bringTo(club, pressure);
        return club;
    }

    /** Lets days go by until the pressure is there; the last of them brings no storm. */
    static void bringTo(BarometerClub club, int pressure) {
        while (club.weather(0) != pressure) {
            club.day(Math.max(-19, Math.min(19, pressure - club.weather(0))));
        }
    }

    /** The member loses coins by readings that nobody wins; no one else may have wagered. */
    static void drain(BarometerClub club, int member, int left) {
        while (club.memberOf(member, 0) > left) {
            int tooMany = club.memberOf(member, 0) - left;
            // A stake and a tap cost 2 coins or more, so a single one must not be left over.
            int lost = tooMany == 11 ? 9 : Math.min(10, tooMany);
            club.wager(member, 900, lost - 1);
            club.tap(member);
            club.read();
        }
    }

    /** The pressure is what it was afterwards, and there is no storm. */
    static void giveBottles(BarometerClub club, int member, int number) {
        for (int bottle = 0; bottle < number; bottle++) {
            club.day(-20);
            club.bottle(member);
            club.day(20);
        }
    }

    static void type(BarometerClub club, String text) {
        for (char character : text.toCharArray()) {
            club.append(character);
        }
    }

    static int run(BarometerClub club, String text) {
        type(club, text);
        return club.commands();
    }

    /** The characters of the line, as far as there are any. */
    static String written(BarometerClub club) {
        StringBuilder signs = new StringBuilder();
        Object sign = Check.answer(() -> club.character(0));
        while (sign instanceof Character) {
            signs.append(sign);
            sign = Check.answer(() -> club.character(signs.length()));
        }
        return signs.toString();
    }

    static String lineOf(BarometerClub club, int member) {
        int length = club.line(member);
        return length + ":" + written(club);
    }

    static String boardOf(BarometerClub club) {
        int length = club.board();
        return length + ":" + written(club);
    }

    /** A number of each member, one behind the other. */
    static String all(BarometerClub club, int what) {
        StringBuilder numbers = new StringBuilder();
        for (int member = 0; member < club.account(0); member++) {
            numbers.append(member == 0 ? "" : " ").append(club.memberOf(member, what));
        }
        return numbers.toString();
    }

    /** The six numbers of the weather, one behind the other. */
    static String weather(BarometerClub club) {
        StringBuilder numbers = new StringBuilder();
        for (int what = 0; what <= 5; what++) {
            numbers.append(what == 0 ? "" : " ").append(club.weather(what));
        }
        return numbers.toString();
    }
}
