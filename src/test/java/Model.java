import java.util.ArrayDeque;
import java.util.ArrayList;
import java.util.Comparator;
import java.util.List;
import java.util.NoSuchElementException;
import java.util.regex.Matcher;
import java.util.regex.Pattern;

/** The document told a second time, with the whole library, for runs side by side with the class. */
final class Model {
    static final class Person {
        int coins = 50;
        int height;
        Integer guess;
        int stake;
        boolean tapped;
        int bottles;
        int wins;

        Person(int height) {
            this.height = height;
        }

        Person(Person other) {
            coins = other.coins;
            height = other.height;
            guess = other.guess;
            stake = other.stake;
            tapped = other.tapped;
            bottles = other.bottles;
            wins = other.wins;
        }

        int error(int pressure) {
            return Math.abs(guess - (pressure - 12 * height));
        }
    }

    static final class World {
        final List<Person> people = new ArrayList<>();
        int pressure = 1000;
        int change;
        boolean storm;
        int days;
        int storms;
        int released;
        int pot;
        int readings;
        int won;
        int paid;
        int brought;
        int taken;

        World copy() {
            World copy = new World();
            for (Person person : people) {
                copy.people.add(new Person(person));
            }
            copy.pressure = pressure;
            copy.change = change;
            copy.storm = storm;
            copy.days = days;
            copy.storms = storms;
            copy.released = released;
            copy.pot = pot;
            copy.readings = readings;
            copy.won = won;
            copy.paid = paid;
            copy.brought = brought;
            copy.taken = taken;
            return copy;
        }

        int at(int height) {
            for (int who = 0; who < people.size(); who++) {
                if (people.get(who).height == height) {
                    return who;
                }
            }
            return -1;
        }
    }

    static final class Refused extends RuntimeException {
        private static final long serialVersionUID = 1L;
        final int reason;
        final int detail;

        Refused(int reason, int detail) {
            this.reason = reason;
            this.detail = detail;
        }
    }

    private static final String COMMAND =
            "(?:[jxtbo][0-9]|m[0-9]>[0-9]|s[0-9]&[0-9]|w[0-9]=[0-9]{3,4}/[0-9]|d[+-][0-9]{1,2}|r)";
    private static final Pattern TEXT = Pattern.compile(COMMAND + "(?:;" + COMMAND + ")*");

    World now = new World();
    private World saved;
    private final ArrayDeque<World> past = new ArrayDeque<>();
    private String buffer = "";
    private String shown = "";
    private int fault = -1;
    private int[] reason;

    private static void refuse(boolean refused, int reason, int detail) {
        if (refused) {
            throw new Refused(reason, detail);
        }
    }

    private Person person(int who) {
        refuse(who < 0 || who >= now.people.size(), 4, now.people.size());
        return now.people.get(who);
    }

    private Person known(int who) {
        if (who < 0 || who >= now.people.size()) {
            throw new IndexOutOfBoundsException();
        }
        return now.people.get(who);
    }

    private static void range(int number, int least, int most) {
        if (number < least || number > most) {
            throw new IllegalArgumentException();
        }
    }

    int act(char kind, int a, int b, int c) {
        World before = now.copy();
        try {
            int answer = carryOut(kind, a, b, c);
            remember(before);
            return answer;
        } catch (Refused refused) {
            now = before;
            reason = new int[] {refused.reason, refused.detail, 0};
            throw new UnsupportedOperationException();
        }
    }

    private void remember(World before) {
        past.addLast(before);
        if (past.size() > 8) {
            past.removeFirst();
        }
    }

    private int carryOut(char kind, int a, int b, int c) {
        switch (kind) {
            case 'j': return join(a);
            case 'x': return leave(a);
            case 'm': return move(a, b);
            case 's': return exchange(a, b);
            case 'w': return wager(a, b, c);
            case 't': return tap(a);
            case 'd': return day(a);
            case 'b': return bottle(a);
            case 'o': return letOut(a);
            default: return read();
        }
    }

    private int join(int height) {
        refuse(height < 0 || height > 9, 1, 0);
        refuse(now.people.size() == 6, 2, 6);
        refuse(now.at(height) >= 0, 3, now.at(height));
        now.people.add(new Person(height));
        now.brought += 50;
        return now.people.size() - 1;
    }

    private int leave(int who) {
        Person person = person(who);
        refuse(person.guess != null, 7, person.guess == null ? 0 : person.guess);
        now.people.remove(who);
        now.taken += person.coins;
        return person.coins;
    }

    private int move(int who, int height) {
        Person person = person(who);
        refuse(height < 0 || height > 9, 1, 0);
        refuse(now.at(height) >= 0, 3, now.at(height));
        int cost = 2 * Math.abs(person.height - height);
        refuse(person.coins < cost, 5, cost - person.coins);
        person.height = height;
        person.coins -= cost;
        now.pot += cost;
        now.paid += cost;
        return person.coins;
    }

    private int exchange(int one, int other) {
        Person first = person(one);
        Person second = person(other);
        refuse(one == other, 6, one);
        int height = first.height;
        first.height = second.height;
        second.height = height;
        return Math.abs(first.height - second.height);
    }

    private int wager(int who, int guess, int stake) {
        Person person = person(who);
        refuse(guess < 700 || guess > 1100 || stake < 1 || stake > 9, 1, 0);
        refuse(person.guess != null, 7, person.guess == null ? 0 : person.guess);
        refuse(person.coins < stake, 5, stake - person.coins);
        person.guess = guess;
        person.stake = stake;
        person.coins -= stake;
        now.pot += stake;
        return now.pot;
    }

    private int tap(int who) {
        Person person = person(who);
        refuse(person.guess == null, 8, 0);
        refuse(person.tapped, 9, person.stake);
        refuse(person.coins < 1, 5, 1);
        person.tapped = true;
        person.coins--;
        now.pot++;
        now.paid++;
        return Integer.signum(now.change);
    }

    private int day(int change) {
        refuse(change < -40 || change > 40, 1, 0);
        int pressure = now.pressure + change;
        refuse(pressure < 900 || pressure > 1100, 13, pressure);
        now.pressure = pressure;
        now.change = change;
        now.days++;
        now.storm = change <= -20;
        now.storms += now.storm ? 1 : 0;
        return pressure;
    }

    private int bottle(int who) {
        Person person = person(who);
        refuse(!now.storm, 10, now.change);
        refuse(person.bottles == 3, 11, 3);
        now.storm = false;
        return ++person.bottles;
    }

    private int letOut(int who) {
        Person person = person(who);
        refuse(person.bottles == 0, 12, 0);
        refuse(now.pressure < 915, 13, now.pressure - 15);
        person.bottles--;
        now.pressure -= 15;
        now.change = -15;
        now.storm = false;
        now.released++;
        return now.pressure;
    }

    private int read() {
        refuse(now.people.stream().allMatch(person -> person.guess == null), 14, now.pot);
        List<Integer> winners = winners(now.pressure);
        int share = winners.isEmpty() ? 0 : now.pot / winners.size();
        for (int who : winners) {
            now.people.get(who).coins += share;
            now.people.get(who).wins++;
            now.pot -= share;
            now.won += share;
        }
        for (Person person : now.people) {
            person.guess = null;
            person.stake = 0;
            person.tapped = false;
        }
        now.readings++;
        return winners.size();
    }

    private List<Integer> winners(int pressure) {
        List<Integer> playing = new ArrayList<>();
        for (int who = 0; who < now.people.size(); who++) {
            Person person = now.people.get(who);
            if (person.guess != null && !person.tapped) {
                playing.add(who);
            }
        }
        int least = playing.stream().mapToInt(who -> now.people.get(who).error(pressure)).min().orElse(0);
        playing.removeIf(who -> now.people.get(who).error(pressure) != least);
        return playing;
    }

    private static int bits(List<Integer> set) {
        return set.stream().mapToInt(who -> 1 << who).sum();
    }

    int winnersNow() {
        return bits(winners(now.pressure));
    }

    int share() {
        int number = winners(now.pressure).size();
        return number == 0 ? 0 : now.pot / number;
    }

    int wouldWin(int change) {
        range(change, -40, 40);
        return bits(winners(Math.max(900, Math.min(1100, now.pressure + change))));
    }

    int changeFor(int who) {
        known(who);
        int best = 99;
        for (int change = -40; change <= 40; change++) {
            if (wouldWin(change) == 1 << who && Math.abs(change) < Math.abs(best)) {
                best = change;
            }
        }
        if (best == 99) {
            throw new NoSuchElementException();
        }
        return best;
    }

    int memberOf(int who, int what) {
        Person person = known(who);
        range(what, 0, 6);
        int[] numbers = {person.coins, person.height, person.guess == null ? -1 : person.guess, person.stake,
            person.tapped ? 1 : 0, person.bottles, person.wins};
        return numbers[what];
    }

    int needle(int who) {
        return now.pressure - 12 * known(who).height;
    }

    int off(int who) {
        if (known(who).guess == null) {
            throw new NoSuchElementException();
        }
        return known(who).error(now.pressure);
    }

    int owner(int height) {
        range(height, 0, 9);
        if (now.at(height) < 0) {
            throw new NoSuchElementException();
        }
        return now.at(height);
    }

    int nearestFree(int who) {
        Person person = known(who);
        int best = -1;
        for (int height = 9; height >= 0; height--) {
            int away = Math.abs(height - person.height);
            boolean canHave = now.at(height) < 0 && 2 * away <= person.coins;
            if (canHave && (best < 0 || away <= Math.abs(best - person.height))) {
                best = height;
            }
        }
        if (best < 0) {
            throw new NoSuchElementException();
        }
        return best;
    }

    int ranked(int measure, int place) {
        range(measure, 0, 3);
        if (place < 0 || place >= now.people.size()) {
            throw new NoSuchElementException();
        }
        List<Integer> order = new ArrayList<>();
        for (int who = 0; who < now.people.size(); who++) {
            order.add(who);
        }
        int[] traits = {0, 1, -1, 6};
        order.sort(Comparator.comparing(who -> measure == 2 ? -needle(who) : -memberOf(who, traits[measure])));
        return order.get(place);
    }

    int weather(int what) {
        range(what, 0, 5);
        return new int[] {now.pressure, now.change, now.storm ? 1 : 0, now.days, now.storms, now.released}[what];
    }

    int coins() {
        return now.people.stream().mapToInt(person -> person.coins).sum();
    }

    private int wagered() {
        return (int) now.people.stream().filter(person -> person.guess != null).count();
    }

    int account(int what) {
        range(what, 0, 10);
        return new int[] {now.people.size(), coins(), now.pot, wagered(), now.readings, now.won, now.paid,
            now.brought, now.taken, past.size(), buffer.length()}[what];
    }

    int append(char character) {
        if (buffer.length() == 60) {
            throw new IllegalStateException();
        }
        buffer += character;
        return buffer.length();
    }

    private static int faultOf(String text) {
        Matcher whole = TEXT.matcher(text);
        if (whole.matches()) {
            return -1;
        }
        for (int end = 1; end <= text.length(); end++) {
            Matcher part = TEXT.matcher(text.substring(0, end));
            if (!part.matches() && !part.hitEnd()) {
                return end - 1;
            }
        }
        return text.length();
    }

    int commands() {
        String text = buffer;
        buffer = "";
        fault = faultOf(text);
        if (fault >= 0) {
            throw new IllegalArgumentException();
        }
        World before = now.copy();
        String[] parts = text.split(";");
        for (int index = 0; index < parts.length; index++) {
            try {
                carryOutText(parts[index]);
            } catch (Refused refused) {
                now = before;
                reason = new int[] {refused.reason, refused.detail, index};
                throw new UnsupportedOperationException();
            }
        }
        remember(before);
        return parts.length;
    }

    private void carryOutText(String part) {
        String[] numbers = part.substring(1).split("[>&=/]");
        int[] values = new int[3];
        for (int index = 0; index < numbers.length && !numbers[index].isEmpty(); index++) {
            values[index] = Integer.parseInt(numbers[index]);
        }
        carryOut(part.charAt(0), values[0], values[1], values[2]);
    }

    int faultPosition() {
        return fault;
    }

    int reason(int what) {
        range(what, 0, 2);
        if (reason == null) {
            throw new NoSuchElementException();
        }
        return reason[what];
    }

    int line(int who) {
        Person person = known(who);
        shown = person.coins + "@" + person.height
                + (person.guess == null ? "" : "=" + person.guess + "/" + person.stake)
                + (person.tapped ? "!" : "");
        return shown.length();
    }

    int board() {
        StringBuilder signs = new StringBuilder();
        for (int height = 0; height < 10; height++) {
            signs.append(now.at(height) < 0 ? "." : Integer.toString(now.at(height)));
        }
        shown = signs.toString();
        return shown.length();
    }

    char character(int index) {
        if (index < 0 || index >= shown.length()) {
            throw new IndexOutOfBoundsException();
        }
        return shown.charAt(index);
    }

    double meanCoins() {
        if (now.people.isEmpty()) {
            throw new ArithmeticException();
        }
        return (double) coins() / now.people.size();
    }

    float tappedShare() {
        if (wagered() == 0) {
            throw new ArithmeticException();
        }
        return (float) now.people.stream().filter(person -> person.tapped).count() / wagered();
    }

    int undo() {
        if (past.isEmpty()) {
            throw new IllegalStateException();
        }
        now = past.removeLast();
        return past.size();
    }

    int save() {
        saved = now.copy();
        return now.people.size();
    }

    int restore() {
        if (saved == null) {
            throw new IllegalStateException();
        }
        now = saved.copy();
        past.clear();
        return now.people.size();
    }
}
