import java.util.ArrayList;
import java.util.List;

/** All that can be found out about a club: by questions, and by what undo, restore, and commands make of it. */
final class State {
    /** Makes a club from a new object, always the same one. */
    interface Recipe {
        void on(BarometerClub club);
    }

    private static final int MOST_UNDONE = 9;

    private State() {
    }

    static BarometerClub made(Recipe recipe) {
        BarometerClub club = new BarometerClub();
        recipe.on(club);
        return club;
    }

    /** What can be undone, and the number of changes that can be undone. */
    static String ofClub(BarometerClub club) {
        return ofAllThatCanBeUndone(club) + ", changes: " + club.account(9);
    }

    static String ofAllThatCanBeUndone(BarometerClub club) {
        StringBuilder told = new StringBuilder(Clubs.weather(club));
        for (int what = 0; what <= 8; what++) {
            told.append(", account ").append(what).append(": ").append(club.account(what));
        }
        for (int what = 0; what <= 6; what++) {
            told.append(", number ").append(what).append(": ").append(Clubs.all(club, what));
        }
        return told.toString();
    }

    static String ofText(BarometerClub club) {
        return club.account(10) + " characters";
    }

    static String ofFault(BarometerClub club) {
        return "fault " + club.faultPosition();
    }

    static String ofReason(BarometerClub club) {
        return "reason " + Check.answer(() -> club.reason(0)) + " " + Check.answer(() -> club.reason(1)) + " "
                + Check.answer(() -> club.reason(2));
    }

    static String ofLine(BarometerClub club) {
        return "line " + Clubs.written(club);
    }

    /** What the history, the snapshot, and the text buffer hold, found out on a club of its own each. */
    static List<String> hidden(Recipe recipe) {
        List<String> told = new ArrayList<>();
        for (int back = 1; back <= MOST_UNDONE; back++) {
            BarometerClub club = made(recipe);
            Object answer = null;
            for (int step = 0; step < back; step++) {
                answer = Check.answer(club::undo);
            }
            told.add("undone " + back + " times: " + answer + " " + ofClub(club));
        }
        BarometerClub restored = made(recipe);
        told.add("restored: " + Check.answer(restored::restore) + " " + ofClub(restored));
        BarometerClub called = made(recipe);
        told.add("text: " + Check.answer(called::commands) + " " + called.faultPosition() + " " + ofClub(called));
        return told;
    }
}
