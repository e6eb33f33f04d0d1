/** Runs of 512 calls on the class and on the model, side by side; the numbers are the same each time. */
public final class ModelTest {
    private static final int RUNS = 1200;
    private static final int CALLS = 512;
    private static final String[] SCRAPS = {
        "j", "x", "m", "s", "w", "t", "d", "b", "o", "r", ";", ">", "&", "=", "/", "+", "-", "0", "1", "9", "10", "700",
        "999", "1100", "0964", " ", "\u0661", "\u0000"
    };

    private static long seed = 20261119;

    private static int upTo(int bound) {
        seed = seed * 6364136223846793005L + 1442695040888963407L;
        return (int) ((seed >>> 33) % bound);
    }

    private static int pick(int... numbers) {
        return numbers[upTo(numbers.length)];
    }

    private static int someMember() {
        return upTo(25) == 0 ? pick(-1, 6, 7, Integer.MAX_VALUE, Integer.MIN_VALUE) : upTo(6);
    }

    private static int someHeight() {
        return upTo(25) == 0 ? pick(-1, 10, Integer.MAX_VALUE, Integer.MIN_VALUE) : upTo(10);
    }

    private static int someGuess() {
        return upTo(12) == 0 ? pick(699, 700, 1100, 1101, Integer.MIN_VALUE) : 850 + upTo(200);
    }

    private static int someStake() {
        return upTo(12) == 0 ? pick(-1, 0, 10, Integer.MAX_VALUE) : pick(1, 2, 3, 9, 9, 9);
    }

    private static int someChange() {
        return upTo(10) == 0 ? pick(-41, 41, -40, 40, Integer.MIN_VALUE, Integer.MAX_VALUE) : upTo(81) - 40;
    }

    private static String someCommand() {
        switch (upTo(10)) {
            case 0: return "j" + upTo(10);
            case 1: return "x" + upTo(6);
            case 2: return "m" + upTo(6) + ">" + upTo(10);
            case 3: return "s" + upTo(6) + "&" + upTo(6);
            case 4: return "w" + upTo(6) + "=" + (850 + upTo(260)) + "/" + upTo(10);
            case 5: return "t" + upTo(6);
            case 6: return "d" + (upTo(2) == 0 ? "+" : "-") + upTo(45);
            case 7: return "b" + upTo(6);
            case 8: return "o" + upTo(6);
            default: return "r";
        }
    }

    private static String someText() {
        StringBuilder text = new StringBuilder(someCommand());
        for (int more = upTo(4); more > 0; more--) {
            text.append(';').append(someCommand());
        }
        if (upTo(4) == 0) {
            text.insert(upTo(text.length() + 1), SCRAPS[upTo(SCRAPS.length)]);
        }
        if (upTo(8) == 0) {
            text.deleteCharAt(upTo(text.length()));
        }
        return text.toString();
    }

    private static void both(String what, Check.Call real, Check.Call model) {
        Check.due(what, Check.answer(real), Check.answer(model));
    }

    private static void change(BarometerClub club, Model model) {
        int member = someMember();
        int other = someMember();
        int height = someHeight();
        int guess = upTo(3) > 0 && member >= 0 && member < model.account(0)
                ? model.needle(member) + upTo(9) - 4 : someGuess();
        int stake = someStake();
        int change = someChange();
        switch (upTo(14)) {
            case 0: case 1: both("join", () -> club.join(height), () -> model.act('j', height, 0, 0)); break;
            case 2: both("leave", () -> club.leave(member), () -> model.act('x', member, 0, 0)); break;
            case 3: both("move", () -> club.move(member, height), () -> model.act('m', member, height, 0)); break;
            case 4: both("exchange", () -> club.exchange(member, other), () -> model.act('s', member, other, 0)); break;
            case 5: case 6: case 7:
                both("wager", () -> club.wager(member, guess, stake), () -> model.act('w', member, guess, stake));
                break;
            case 8: both("tap", () -> club.tap(member), () -> model.act('t', member, 0, 0)); break;
            case 9: case 10: both("day", () -> club.day(change), () -> model.act('d', change, 0, 0)); break;
            case 11: both("bottle", () -> club.bottle(member), () -> model.act('b', member, 0, 0)); break;
            case 12: both("letOut", () -> club.letOut(member), () -> model.act('o', member, 0, 0)); break;
            default: both("read", () -> club.read(), () -> model.act('r', 0, 0, 0)); break;
        }
    }

    private static int command(BarometerClub club, Model model) {
        String text = someText();
        for (char character : text.toCharArray()) {
            both("append", () -> club.append(character), () -> model.append(character));
        }
        if (upTo(12) > 0) {
            both("commands of " + text, club::commands, model::commands);
        }
        return text.length() + 1;
    }

    private static void askForMember(BarometerClub club, Model model) {
        int member = someMember();
        int what = upTo(9) - 1;
        switch (upTo(7)) {
            case 0: both("memberOf", () -> club.memberOf(member, what), () -> model.memberOf(member, what)); break;
            case 1: both("needle", () -> club.needle(member), () -> model.needle(member)); break;
            case 2: both("needleAgain", () -> club.needleAgain(member), () -> model.needle(member)); break;
            case 3: both("off", () -> club.off(member), () -> model.off(member)); break;
            case 4: both("changeFor", () -> club.changeFor(member), () -> model.changeFor(member)); break;
            case 5: both("bestGuess", () -> club.bestGuess(member), () -> model.needle(member)); break;
            default: both("nearestFree", () -> club.nearestFree(member), () -> model.nearestFree(member)); break;
        }
    }

    private static void ask(BarometerClub club, Model model) {
        int member = someMember();
        int height = someHeight();
        int change = someChange();
        int what = upTo(13) - 1;
        int measure = upTo(6) - 1;
        int place = upTo(8) - 1;
        switch (upTo(16)) {
            case 0: both("owner", () -> club.owner(height), () -> model.owner(height)); break;
            case 1: both("winners", club::winners, model::winnersNow); break;
            case 2: both("winnersAgain", club::winnersAgain, model::winnersNow); break;
            case 3: both("share", club::share, model::share); break;
            case 4: both("wouldWin", () -> club.wouldWin(change), () -> model.wouldWin(change)); break;
            case 5: both("ranked", () -> club.ranked(measure, place), () -> model.ranked(measure, place)); break;
            case 6: both("weather", () -> club.weather(measure + 1), () -> model.weather(measure + 1)); break;
            case 7: both("isEven", club::isEven, () -> true); break;
            case 8: both("reason", () -> club.reason(measure), () -> model.reason(measure)); break;
            case 9: both("line", () -> club.line(member), () -> model.line(member)); break;
            case 10: both("board", club::board, model::board); break;
            case 11: both("character", () -> club.character(what), () -> model.character(what)); break;
            case 12: both("meanCoins", club::meanCoins, model::meanCoins); break;
            case 13: both("tappedShare", club::tappedShare, model::tappedShare); break;
            case 14: both("account", () -> club.account(what), () -> model.account(what)); break;
            default: both("faultPosition", club::faultPosition, model::faultPosition); break;
        }
    }

    private static void goBack(BarometerClub club, Model model) {
        switch (upTo(6)) {
            case 0: both("save", club::save, model::save); break;
            case 1: both("restore", club::restore, model::restore); break;
            default: both("undo", club::undo, model::undo); break;
        }
    }

    /** All that can be asked without a change, so that no difference stays unseen. */
    private static void compareAll(BarometerClub club, Model model) {
        for (int what = 0; what <= 10; what++) {
            Check.due("account " + what, club.account(what), model.account(what));
        }
        for (int what = 0; what <= 5; what++) {
            Check.due("weather " + what, club.weather(what), model.weather(what));
        }
        for (int member = 0; member < model.account(0); member++) {
            for (int what = 0; what <= 6; what++) {
                Check.due("memberOf " + what, club.memberOf(member, what), model.memberOf(member, what));
            }
        }
        for (int what = 0; what <= 2; what++) {
            int number = what;
            both("reason " + what, () -> club.reason(number), () -> model.reason(number));
        }
    }

    private static void run(int number) {
        BarometerClub club = new BarometerClub();
        Model model = new Model();
        // A club that is asked little between its changes gets into rarer states.
        int questions = number % 3;
        int calls = 0;
        while (calls < CALLS) {
            int turn = upTo(40);
            if (turn == 0) {
                goBack(club, model);
            } else if (turn < 4) {
                calls += command(club, model);
            } else if (turn < 30 - 8 * questions) {
                change(club, model);
            } else if (turn < 36) {
                askForMember(club, model);
            } else {
                ask(club, model);
            }
            calls++;
            compareAll(club, model);
        }
    }

    public static void main(String[] args) {
        for (int number = 0; number < RUNS; number++) {
            run(number);
        }
        Check.end();
    }
}
