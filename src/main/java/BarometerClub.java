import java.util.NoSuchElementException;

/** A club that wagers on barometers; ../shared/DOC.md tells what each call promises. */
public final class BarometerClub {
    private static final int MOST_MEMBERS = 6;
    private static final int FIRST_COINS = 50;
    private static final int HIGHEST = 9;
    private static final int STEP = 12;
    private static final int LOWEST_PRESSURE = 900;
    private static final int FIRST_PRESSURE = 1000;
    private static final int HIGHEST_PRESSURE = 1100;
    private static final int GREATEST_CHANGE = 40;
    private static final int STORM_CHANGE = -20;
    private static final int BOTTLE_CHANGE = -15;
    private static final int MOST_BOTTLES = 3;
    private static final int LOWEST_GUESS = 700;
    private static final int HIGHEST_GUESS = 1100;
    private static final int LOWEST_STAKE = 1;
    private static final int HIGHEST_STAKE = 9;
    private static final int TAP_PRICE = 1;
    private static final int MOVE_PRICE = 2;
    private static final int NONE = -1;

    // What a command does is told by the character that begins it in a text.
    private static final int JOIN = 'j';
    private static final int LEAVE = 'x';
    private static final int MOVE = 'm';
    private static final int EXCHANGE = 's';
    private static final int WAGER = 'w';
    private static final int TAP = 't';
    private static final int DAY = 'd';
    private static final int BOTTLE = 'b';
    private static final int LET_OUT = 'o';
    private static final int READ = 'r';

    private final Club club = new Club();
    private final Rules rules = new Rules();
    private final History history = new History();
    private final CommandText text = new CommandText();
    private final Line written = new Line();
    private final int[] snapshot = new int[Club.SIZE];
    private boolean isSaved = false;
    private int latestFault = NONE;
    private int keptReason = 0;
    private int keptDetail = 0;
    private int keptCommand = 0;

    public BarometerClub() {
    }

    public int join(int height) throws UnsupportedOperationException {
        return change(JOIN, height, 0, 0);
    }

    public int leave(int member) throws UnsupportedOperationException {
        return change(LEAVE, member, 0, 0);
    }

    public int move(int member, int height) throws UnsupportedOperationException {
        return change(MOVE, member, height, 0);
    }

    public int exchange(int one, int other) throws UnsupportedOperationException {
        return change(EXCHANGE, one, other, 0);
    }

    public int wager(int member, int guess, int stake) throws UnsupportedOperationException {
        return change(WAGER, member, guess, stake);
    }

    public int tap(int member) throws UnsupportedOperationException {
        return change(TAP, member, 0, 0);
    }

    public int day(int change) throws UnsupportedOperationException {
        return change(DAY, change, 0, 0);
    }

    public int bottle(int member) throws UnsupportedOperationException {
        return change(BOTTLE, member, 0, 0);
    }

    public int letOut(int member) throws UnsupportedOperationException {
        return change(LET_OUT, member, 0, 0);
    }

    public int read() throws UnsupportedOperationException {
        return change(READ, 0, 0, 0);
    }

    public int memberOf(int member, int what) throws IndexOutOfBoundsException, IllegalArgumentException {
        refuseStranger(member);
        if (what < 0 || what >= Club.TRAITS) {
            throw new IllegalArgumentException("what is not from 0 to 6");
        }
        return club.of(member, what);
    }

    public int needle(int member) throws IndexOutOfBoundsException {
        refuseStranger(member);
        return Judge.shown(club, member, club.get(Club.PRESSURE));
    }

    public int needleAgain(int member) throws IndexOutOfBoundsException {
        refuseStranger(member);
        return Judge.shownStepByStep(club, member);
    }

    public int off(int member) throws IndexOutOfBoundsException, NoSuchElementException {
        refuseStranger(member);
        if (!club.hasWagered(member)) {
            throw new NoSuchElementException("the member has not wagered");
        }
        return Judge.distance(club, member, club.get(Club.PRESSURE));
    }

    public int owner(int height) throws IllegalArgumentException, NoSuchElementException {
        if (!isHeight(height)) {
            throw new IllegalArgumentException("there is no such height");
        }
        int found = club.ownerOf(height);
        if (found == NONE) {
            throw new NoSuchElementException("nobody owns the height");
        }
        return found;
    }

    public int winners() {
        return Judge.nearest(club, club.get(Club.PRESSURE));
    }

    public int winnersAgain() {
        return Judge.nearestByDistances(club);
    }

    public int share() {
        return Judge.shareOf(club, Judge.nearest(club, club.get(Club.PRESSURE)));
    }

    public int wouldWin(int change) throws IllegalArgumentException {
        if (!isChange(change)) {
            throw new IllegalArgumentException("the change is not from -40 to 40");
        }
        return Judge.nearestBehind(club, change);
    }

    public int changeFor(int member) throws IndexOutOfBoundsException, NoSuchElementException {
        refuseStranger(member);
        for (int size = 0; size <= GREATEST_CHANGE; size++) {
            if (Judge.winsAloneBehind(club, member, -size)) {
                return -size;
            }
            if (Judge.winsAloneBehind(club, member, size)) {
                return size;
            }
        }
        throw new NoSuchElementException("the member would win alone by no change");
    }

    public int bestGuess(int member) throws IndexOutOfBoundsException {
        refuseStranger(member);
        int shown = Judge.shown(club, member, club.get(Club.PRESSURE));
        return held(shown, LOWEST_GUESS, HIGHEST_GUESS);
    }

    public int nearestFree(int member) throws IndexOutOfBoundsException, NoSuchElementException {
        refuseStranger(member);
        int from = club.of(member, Club.HEIGHT);
        for (int steps = 1; steps <= HIGHEST; steps++) {
            boolean canPay = MOVE_PRICE * steps <= club.of(member, Club.COINS);
            if (canPay && club.isFree(from - steps)) {
                return from - steps;
            }
            if (canPay && club.isFree(from + steps)) {
                return from + steps;
            }
        }
        throw new NoSuchElementException("there is no free height that the member could pay for");
    }

    public int ranked(int measure, int place) throws IllegalArgumentException, NoSuchElementException {
        if (measure < 0 || measure >= Ranking.MEASURES) {
            throw new IllegalArgumentException("there is no such measure");
        }
        int found = Ranking.atPlace(club, measure, place);
        if (found == NONE) {
            throw new NoSuchElementException("there is no such place");
        }
        return found;
    }

    public int weather(int what) throws IllegalArgumentException {
        if (what < 0 || what >= Club.WEATHER_NUMBERS) {
            throw new IllegalArgumentException("what is not from 0 to 5");
        }
        return club.get(Club.PRESSURE + what);
    }

    public boolean isEven() {
        return club.get(Club.BROUGHT) == club.coinsOfAll() + club.get(Club.POT) + club.get(Club.TAKEN);
    }

    public int append(char character) throws IllegalStateException {
        if (text.isFull()) {
            throw new IllegalStateException("the buffer contains 60 characters");
        }
        text.add(character);
        return text.length();
    }

    public int commands() throws IllegalArgumentException, UnsupportedOperationException {
        latestFault = text.scan();
        text.empty();
        if (latestFault != NONE) {
            throw new IllegalArgumentException("the text has a fault");
        }
        history.prepare(club);
        for (int command = 0; command < text.size(); command++) {
            rules.carryOut(club, text.kind(command), text.number(command, 1), text.number(command, 2),
                    text.number(command, 3));
            if (rules.isRefused()) {
                history.returnToPrepared(club);
                keepReason(command);
                throw new UnsupportedOperationException("a command is refused");
            }
        }
        history.accept();
        return text.size();
    }

    public int faultPosition() {
        return latestFault;
    }

    public int reason(int what) throws IllegalArgumentException, NoSuchElementException {
        if (what < 0 || what > 2) {
            throw new IllegalArgumentException("what is not from 0 to 2");
        }
        if (keptReason == 0) {
            throw new NoSuchElementException("nothing was refused");
        }
        if (what == 0) {
            return keptReason;
        }
        return what == 1 ? keptDetail : keptCommand;
    }

    public int line(int member) throws IndexOutOfBoundsException {
        refuseStranger(member);
        written.writeMember(club, member);
        return written.length();
    }

    public int board() {
        written.writeHeights(club);
        return written.length();
    }

    public char character(int index) throws IndexOutOfBoundsException {
        if (index < 0 || index >= written.length()) {
            throw new IndexOutOfBoundsException("there is no such index");
        }
        return written.at(index);
    }

    public double meanCoins() throws ArithmeticException {
        int number = club.get(Club.COUNT);
        if (number == 0) {
            throw new ArithmeticException("there are no members");
        }
        return (double) club.coinsOfAll() / (double) number;
    }

    public float tappedShare() throws ArithmeticException {
        int number = club.wageredNumber();
        if (number == 0) {
            throw new ArithmeticException("nobody has wagered");
        }
        return (float) club.tappedNumber() / (float) number;
    }

    public int account(int what) throws IllegalArgumentException {
        switch (what) {
            case 0: return club.get(Club.COUNT);
            case 1: return club.coinsOfAll();
            case 2: return club.get(Club.POT);
            case 3: return club.wageredNumber();
            case 4: return club.get(Club.READINGS);
            case 5: return club.get(Club.WON);
            case 6: return club.get(Club.PAID);
            case 7: return club.get(Club.BROUGHT);
            case 8: return club.get(Club.TAKEN);
            case 9: return history.size();
            case 10: return text.length();
            default: throw new IllegalArgumentException("what is not from 0 to 10");
        }
    }

    public int undo() throws IllegalStateException {
        if (history.size() == 0) {
            throw new IllegalStateException("there is no change that can be undone");
        }
        history.stepBack(club);
        return history.size();
    }

    public int save() {
        club.copyTo(snapshot, 0);
        isSaved = true;
        return club.get(Club.COUNT);
    }

    public int restore() throws IllegalStateException {
        if (!isSaved) {
            throw new IllegalStateException("there is no snapshot");
        }
        club.copyFrom(snapshot, 0);
        history.forget();
        return club.get(Club.COUNT);
    }

    private int change(int kind, int first, int second, int third) {
        history.prepare(club);
        int answer = rules.carryOut(club, kind, first, second, third);
        if (rules.isRefused()) {
            keepReason(0);
            throw new UnsupportedOperationException("the call is refused");
        }
        history.accept();
        return answer;
    }

    private void keepReason(int command) {
        keptReason = rules.latestReason();
        keptDetail = rules.latestDetail();
        keptCommand = command;
    }

    private void refuseStranger(int member) {
        if (!club.isMember(member)) {
            throw new IndexOutOfBoundsException("there is no such member");
        }
    }

    private static boolean isHeight(int height) {
        return height >= 0 && height <= HIGHEST;
    }

    private static boolean isChange(int change) {
        return change >= -GREATEST_CHANGE && change <= GREATEST_CHANGE;
    }

    private static boolean isPressure(int pressure) {
        return pressure >= LOWEST_PRESSURE && pressure <= HIGHEST_PRESSURE;
    }

    private static int signOf(int number) {
        if (number == 0) {
            return 0;
        }
        return number > 0 ? 1 : -1;
    }

    private static int held(int number, int least, int most) {
        return Math.max(least, Math.min(most, number));
    }

    /** All that can be undone, in one row of numbers, so that a copy of the row is a copy of all. */
    private static final class Club {
        static final int COUNT = 0;
        // The six numbers of the weather stand in the order in which weather(what) tells them.
        static final int PRESSURE = 1;
        static final int CHANGE = 2;
        static final int STORM = 3;
        static final int DAYS = 4;
        static final int STORMS = 5;
        static final int BOTTLES_OUT = 6;
        static final int WEATHER_NUMBERS = 6;
        static final int POT = 7;
        static final int READINGS = 8;
        static final int WON = 9;
        static final int PAID = 10;
        static final int BROUGHT = 11;
        static final int TAKEN = 12;
        static final int MEMBERS = 13;

        // The numbers of a member stand in the order in which memberOf(member, what) tells them.
        static final int COINS = 0;
        static final int HEIGHT = 1;
        static final int GUESS = 2;
        static final int STAKE = 3;
        static final int TAPPED = 4;
        static final int BOTTLES = 5;
        static final int WINS = 6;
        static final int TRAITS = 7;

        static final int SIZE = MEMBERS + MOST_MEMBERS * TRAITS;

        private final int[] row = new int[SIZE];

        Club() {
            row[PRESSURE] = FIRST_PRESSURE;
        }

        int get(int what) {
            return what >= 0 && what < MEMBERS ? row[what] : 0;
        }

        void set(int what, int number) {
            if (what >= 0 && what < MEMBERS) {
                row[what] = number;
            }
        }

        void add(int what, int number) {
            set(what, get(what) + number);
        }

        int of(int member, int what) {
            boolean isInside = member >= 0 && member < MOST_MEMBERS && what >= 0 && what < TRAITS;
            return isInside ? row[MEMBERS + member * TRAITS + what] : 0;
        }

        void setOf(int member, int what, int number) {
            if (member >= 0 && member < MOST_MEMBERS && what >= 0 && what < TRAITS) {
                row[MEMBERS + member * TRAITS + what] = number;
            }
        }

        void addOf(int member, int what, int number) {
            setOf(member, what, of(member, what) + number);
        }

        void copyTo(int[] rows, int from) {
            if (from >= 0 && from <= rows.length - SIZE) {
                System.arraycopy(row, 0, rows, from, SIZE);
            }
        }

        void copyFrom(int[] rows, int from) {
            if (from >= 0 && from <= rows.length - SIZE) {
                System.arraycopy(rows, from, row, 0, SIZE);
            }
        }

        boolean isMember(int member) {
            return member >= 0 && member < row[COUNT];
        }

        boolean hasWagered(int member) {
            return of(member, GUESS) != NONE;
        }

        boolean hasTapped(int member) {
            return of(member, TAPPED) == 1;
        }

        int ownerOf(int height) {
            for (int member = 0; member < row[COUNT]; member++) {
                if (of(member, HEIGHT) == height) {
                    return member;
                }
            }
            return NONE;
        }

        boolean isFree(int height) {
            return isHeight(height) && ownerOf(height) == NONE;
        }

        int coinsOfAll() {
            int sum = 0;
            for (int member = 0; member < row[COUNT]; member++) {
                sum += of(member, COINS);
            }
            return sum;
        }

        int wageredNumber() {
            int number = 0;
            for (int member = 0; member < row[COUNT]; member++) {
                number += hasWagered(member) ? 1 : 0;
            }
            return number;
        }

        int tappedNumber() {
            int number = 0;
            for (int member = 0; member < row[COUNT]; member++) {
                number += hasTapped(member) ? 1 : 0;
            }
            return number;
        }

        int enroll(int height) {
            int member = row[COUNT];
            setOf(member, COINS, FIRST_COINS);
            setOf(member, HEIGHT, height);
            setOf(member, BOTTLES, 0);
            setOf(member, WINS, 0);
            clearWager(member);
            add(BROUGHT, FIRST_COINS);
            add(COUNT, 1);
            return member;
        }

        int dismiss(int member) {
            int coins = of(member, COINS);
            add(TAKEN, coins);
            add(COUNT, -1);
            for (int later = member; later < row[COUNT]; later++) {
                for (int what = 0; what < TRAITS; what++) {
                    setOf(later, what, of(later + 1, what));
                }
            }
            return coins;
        }

        void clearWager(int member) {
            setOf(member, GUESS, NONE);
            setOf(member, STAKE, 0);
            setOf(member, TAPPED, 0);
        }

        void payIntoPot(int member, int coins) {
            addOf(member, COINS, -coins);
            add(POT, coins);
        }

        void changePressure(int change) {
            add(PRESSURE, change);
            set(CHANGE, change);
            set(STORM, 0);
        }
    }

    /** What needles show, and who is the nearest. */
    private static final class Judge {
        // A needle shows 792 to 1100, a guess is 700 to 1100, so nobody can be farther off.
        private static final int FARTHEST = HIGHEST_GUESS - LOWEST_GUESS;

        static int shown(Club club, int member, int pressure) {
            return pressure - STEP * club.of(member, Club.HEIGHT);
        }

        static int shownStepByStep(Club club, int member) {
            int shown = club.get(Club.PRESSURE);
            for (int height = 0; height < club.of(member, Club.HEIGHT); height++) {
                shown -= STEP;
            }
            return shown;
        }

        static int distance(Club club, int member, int pressure) {
            return Math.abs(club.of(member, Club.GUESS) - shown(club, member, pressure));
        }

        static boolean canWin(Club club, int member) {
            return club.hasWagered(member) && !club.hasTapped(member);
        }

        static int nearest(Club club, int pressure) {
            int set = 0;
            int least = 0;
            for (int member = 0; member < club.get(Club.COUNT); member++) {
                if (!canWin(club, member)) {
                    continue;
                }
                int distance = distance(club, member, pressure);
                if (set == 0 || distance < least) {
                    least = distance;
                    set = 1 << member;
                } else if (distance == least) {
                    set |= 1 << member;
                }
            }
            return set;
        }

        static int nearestByDistances(Club club) {
            for (int distance = 0; distance <= FARTHEST; distance++) {
                int set = soFarOff(club, distance);
                if (set != 0) {
                    return set;
                }
            }
            return 0;
        }

        private static int soFarOff(Club club, int distance) {
            int pressure = club.get(Club.PRESSURE);
            int set = 0;
            for (int member = 0; member < club.get(Club.COUNT); member++) {
                if (canWin(club, member) && distance(club, member, pressure) == distance) {
                    set |= 1 << member;
                }
            }
            return set;
        }

        static int nearestBehind(Club club, int change) {
            int pressure = club.get(Club.PRESSURE) + change;
            return nearest(club, held(pressure, LOWEST_PRESSURE, HIGHEST_PRESSURE));
        }

        static boolean winsAloneBehind(Club club, int member, int change) {
            return nearestBehind(club, change) == 1 << member;
        }

        static int shareOf(Club club, int set) {
            int number = Integer.bitCount(set);
            return number == 0 ? 0 : club.get(Club.POT) / number;
        }
    }

    /** The members in orders. */
    private static final class Ranking {
        static final int MEASURES = 4;

        static int atPlace(Club club, int measure, int place) {
            for (int member = 0; member < club.get(Club.COUNT); member++) {
                if (placeOf(club, measure, member) == place) {
                    return member;
                }
            }
            return NONE;
        }

        private static int placeOf(Club club, int measure, int member) {
            int own = measured(club, measure, member);
            int place = 0;
            for (int other = 0; other < club.get(Club.COUNT); other++) {
                int theirs = measured(club, measure, other);
                if (theirs > own || theirs == own && other < member) {
                    place++;
                }
            }
            return place;
        }

        private static int measured(Club club, int measure, int member) {
            switch (measure) {
                case 0: return club.of(member, Club.COINS);
                case 1: return club.of(member, Club.HEIGHT);
                case 2: return Judge.shown(club, member, club.get(Club.PRESSURE));
                default: return club.of(member, Club.WINS);
            }
        }
    }

    /** Carries out what can be undone, or refuses it for the first reason that applies and changes nothing. */
    private static final class Rules {
        private static final int OUT_OF_RANGE = 1;
        private static final int CLUB_IS_FULL = 2;
        private static final int HEIGHT_IS_OWNED = 3;
        private static final int NO_SUCH_MEMBER = 4;
        private static final int TOO_FEW_COINS = 5;
        private static final int BOTH_ARE_ONE = 6;
        private static final int HAS_WAGERED = 7;
        private static final int HAS_NOT_WAGERED = 8;
        private static final int HAS_TAPPED = 9;
        private static final int NO_STORM = 10;
        private static final int BOTTLES_ARE_FULL = 11;
        private static final int NO_BOTTLE = 12;
        private static final int PRESSURE_OUT_OF_RANGE = 13;
        private static final int NOBODY_HAS_WAGERED = 14;

        private int reason = 0;
        private int detail = 0;

        boolean isRefused() {
            return reason != 0;
        }

        int latestReason() {
            return reason;
        }

        int latestDetail() {
            return detail;
        }

        int carryOut(Club club, int kind, int first, int second, int third) {
            reason = 0;
            detail = 0;
            switch (kind) {
                case JOIN: return enter(club, first);
                case LEAVE: return goAway(club, first);
                case MOVE: return climb(club, first, second);
                case EXCHANGE: return swap(club, first, second);
                case WAGER: return bet(club, first, second, third);
                case TAP: return knock(club, first);
                case DAY: return passDay(club, first);
                case BOTTLE: return fill(club, first);
                case LET_OUT: return uncork(club, first);
                default: return readNeedles(club);
            }
        }

        private int refuse(int why, int more) {
            reason = why;
            detail = more;
            return 0;
        }

        private int refuseStranger(Club club) {
            return refuse(NO_SUCH_MEMBER, club.get(Club.COUNT));
        }

        private int enter(Club club, int height) {
            if (!isHeight(height)) {
                return refuse(OUT_OF_RANGE, 0);
            }
            if (club.get(Club.COUNT) >= MOST_MEMBERS) {
                return refuse(CLUB_IS_FULL, club.get(Club.COUNT));
            }
            if (!club.isFree(height)) {
                return refuse(HEIGHT_IS_OWNED, club.ownerOf(height));
            }
            return club.enroll(height);
        }

        private int goAway(Club club, int member) {
            if (!club.isMember(member)) {
                return refuseStranger(club);
            }
            if (club.hasWagered(member)) {
                return refuse(HAS_WAGERED, club.of(member, Club.GUESS));
            }
            return club.dismiss(member);
        }

        private int climb(Club club, int member, int height) {
            if (!club.isMember(member)) {
                return refuseStranger(club);
            }
            if (!isHeight(height)) {
                return refuse(OUT_OF_RANGE, 0);
            }
            if (!club.isFree(height)) {
                return refuse(HEIGHT_IS_OWNED, club.ownerOf(height));
            }
            int price = MOVE_PRICE * Math.abs(height - club.of(member, Club.HEIGHT));
            if (price > club.of(member, Club.COINS)) {
                return refuse(TOO_FEW_COINS, price - club.of(member, Club.COINS));
            }
            club.payIntoPot(member, price);
            club.add(Club.PAID, price);
            club.setOf(member, Club.HEIGHT, height);
            return club.of(member, Club.COINS);
        }

        private int swap(Club club, int one, int other) {
            if (!club.isMember(one) || !club.isMember(other)) {
                return refuseStranger(club);
            }
            if (one == other) {
                return refuse(BOTH_ARE_ONE, one);
            }
            int height = club.of(one, Club.HEIGHT);
            club.setOf(one, Club.HEIGHT, club.of(other, Club.HEIGHT));
            club.setOf(other, Club.HEIGHT, height);
            return Math.abs(height - club.of(one, Club.HEIGHT));
        }

        private int bet(Club club, int member, int guess, int stake) {
            if (!club.isMember(member)) {
                return refuseStranger(club);
            }
            if (guess < LOWEST_GUESS || guess > HIGHEST_GUESS || stake < LOWEST_STAKE || stake > HIGHEST_STAKE) {
                return refuse(OUT_OF_RANGE, 0);
            }
            if (club.hasWagered(member)) {
                return refuse(HAS_WAGERED, club.of(member, Club.GUESS));
            }
            if (stake > club.of(member, Club.COINS)) {
                return refuse(TOO_FEW_COINS, stake - club.of(member, Club.COINS));
            }
            club.payIntoPot(member, stake);
            club.setOf(member, Club.GUESS, guess);
            club.setOf(member, Club.STAKE, stake);
            return club.get(Club.POT);
        }

        private int knock(Club club, int member) {
            if (!club.isMember(member)) {
                return refuseStranger(club);
            }
            if (!club.hasWagered(member)) {
                return refuse(HAS_NOT_WAGERED, 0);
            }
            if (club.hasTapped(member)) {
                return refuse(HAS_TAPPED, club.of(member, Club.STAKE));
            }
            if (TAP_PRICE > club.of(member, Club.COINS)) {
                return refuse(TOO_FEW_COINS, TAP_PRICE - club.of(member, Club.COINS));
            }
            club.payIntoPot(member, TAP_PRICE);
            club.add(Club.PAID, TAP_PRICE);
            club.setOf(member, Club.TAPPED, 1);
            return signOf(club.get(Club.CHANGE));
        }

        private int passDay(Club club, int change) {
            if (!isChange(change)) {
                return refuse(OUT_OF_RANGE, 0);
            }
            int pressure = club.get(Club.PRESSURE) + change;
            if (!isPressure(pressure)) {
                return refuse(PRESSURE_OUT_OF_RANGE, pressure);
            }
            club.changePressure(change);
            club.add(Club.DAYS, 1);
            if (change <= STORM_CHANGE) {
                club.set(Club.STORM, 1);
                club.add(Club.STORMS, 1);
            }
            return pressure;
        }

        private int fill(Club club, int member) {
            if (!club.isMember(member)) {
                return refuseStranger(club);
            }
            if (club.get(Club.STORM) == 0) {
                return refuse(NO_STORM, club.get(Club.CHANGE));
            }
            int bottles = club.of(member, Club.BOTTLES);
            if (bottles >= MOST_BOTTLES) {
                return refuse(BOTTLES_ARE_FULL, bottles);
            }
            club.set(Club.STORM, 0);
            club.addOf(member, Club.BOTTLES, 1);
            return bottles + 1;
        }

        private int uncork(Club club, int member) {
            if (!club.isMember(member)) {
                return refuseStranger(club);
            }
            if (club.of(member, Club.BOTTLES) == 0) {
                return refuse(NO_BOTTLE, 0);
            }
            int pressure = club.get(Club.PRESSURE) + BOTTLE_CHANGE;
            if (!isPressure(pressure)) {
                return refuse(PRESSURE_OUT_OF_RANGE, pressure);
            }
            club.changePressure(BOTTLE_CHANGE);
            club.addOf(member, Club.BOTTLES, -1);
            club.add(Club.BOTTLES_OUT, 1);
            return pressure;
        }

        private int readNeedles(Club club) {
            if (club.wageredNumber() == 0) {
                return refuse(NOBODY_HAS_WAGERED, club.get(Club.POT));
            }
            int set = Judge.nearest(club, club.get(Club.PRESSURE));
            int share = Judge.shareOf(club, set);
            for (int member = 0; member < club.get(Club.COUNT); member++) {
                if ((set >> member & 1) == 1) {
                    payWinner(club, member, share);
                }
                club.clearWager(member);
            }
            club.add(Club.READINGS, 1);
            return Integer.bitCount(set);
        }

        private static void payWinner(Club club, int member, int share) {
            club.payIntoPot(member, -share);
            club.addOf(member, Club.WINS, 1);
            club.add(Club.WON, share);
        }
    }

    /** What there was before each of the latest changes, in a ring of rows. */
    private static final class History {
        private static final int KEPT = 8;
        // One row more than are kept, for what there was before a change that may yet be refused.
        private static final int ROWS = KEPT + 1;

        private final int[] rows = new int[ROWS * Club.SIZE];
        private int next = 0;
        private int kept = 0;

        int size() {
            return kept;
        }

        void prepare(Club club) {
            club.copyTo(rows, next * Club.SIZE);
        }

        void returnToPrepared(Club club) {
            club.copyFrom(rows, next * Club.SIZE);
        }

        void accept() {
            next = next + 1 < ROWS ? next + 1 : 0;
            kept = Math.min(kept + 1, KEPT);
        }

        void stepBack(Club club) {
            next = next > 0 ? next - 1 : ROWS - 1;
            kept = Math.max(kept - 1, 0);
            returnToPrepared(club);
        }

        void forget() {
            kept = 0;
        }
    }

    /** The text buffer, and the commands that the latest scan of it found. */
    private static final class CommandText {
        private static final int MOST_CHARACTERS = 60;
        // A command has at least one character, so there cannot be more commands than characters.
        private static final int MOST_COMMANDS = MOST_CHARACTERS;
        // The kind of a command and up to three numbers.
        private static final int PARTS = 4;

        private final char[] characters = new char[MOST_CHARACTERS];
        private final int[] parts = new int[MOST_COMMANDS * PARTS];
        private int length = 0;
        private int size = 0;
        private int position = 0;
        private int fault = NONE;

        int length() {
            return length;
        }

        boolean isFull() {
            return length >= MOST_CHARACTERS;
        }

        void add(char character) {
            if (length >= 0 && length < MOST_CHARACTERS) {
                characters[length] = character;
                length++;
            }
        }

        void empty() {
            length = 0;
        }

        int size() {
            return size;
        }

        int kind(int command) {
            return number(command, 0);
        }

        int number(int command, int part) {
            return isPart(command, part) ? parts[command * PARTS + part] : 0;
        }

        private void setNumber(int command, int part, int number) {
            if (isPart(command, part)) {
                parts[command * PARTS + part] = number;
            }
        }

        private static boolean isPart(int command, int part) {
            return command >= 0 && command < MOST_COMMANDS && part >= 0 && part < PARTS;
        }

        /** Finds the commands, and returns the fault position, or -1. */
        int scan() {
            position = 0;
            fault = NONE;
            size = 0;
            for (int command = 0; command < MOST_COMMANDS; command++) {
                scanCommand(command);
                size = command + 1;
                if (fault != NONE || position >= length) {
                    break;
                }
                scanSign(';');
            }
            return fault;
        }

        private void scanCommand(int command) {
            int kind = here();
            if (!isKind(kind)) {
                markFault();
                return;
            }
            position++;
            setNumber(command, 0, kind);
            switch (kind) {
                case READ:
                    break;
                case DAY:
                    setNumber(command, 1, scanChange());
                    break;
                default:
                    setNumber(command, 1, scanDigits(1, 1));
                    scanBehindFirst(command, kind);
                    break;
            }
        }

        private void scanBehindFirst(int command, int kind) {
            switch (kind) {
                case MOVE:
                    scanSign('>');
                    setNumber(command, 2, scanDigits(1, 1));
                    break;
                case EXCHANGE:
                    scanSign('&');
                    setNumber(command, 2, scanDigits(1, 1));
                    break;
                case WAGER:
                    scanSign('=');
                    setNumber(command, 2, scanDigits(3, 4));
                    scanSign('/');
                    setNumber(command, 3, scanDigits(1, 1));
                    break;
                default:
                    break;
            }
        }

        private static boolean isKind(int kind) {
            switch (kind) {
                case JOIN:
                case LEAVE:
                case MOVE:
                case EXCHANGE:
                case WAGER:
                case TAP:
                case DAY:
                case BOTTLE:
                case LET_OUT:
                case READ:
                    return true;
                default:
                    return false;
            }
        }

        private int scanChange() {
            boolean isBelow = here() == '-';
            scanSign(isBelow ? '-' : '+');
            int number = scanDigits(1, 2);
            return isBelow ? -number : number;
        }

        private int scanDigits(int fewest, int most) {
            int number = 0;
            int found = 0;
            while (found < most && isDigit(here())) {
                number = number * 10 + (here() - '0');
                found++;
                position++;
            }
            if (found < fewest) {
                markFault();
            }
            return number;
        }

        private void scanSign(char wanted) {
            if (here() == wanted) {
                position++;
            } else {
                markFault();
            }
        }

        /** The first fault stays: what is scanned behind it counts no more. */
        private void markFault() {
            if (fault == NONE) {
                fault = position;
            }
        }

        /** The character at the position, or 0 at the end, which no command has. */
        private char here() {
            boolean isInside = position >= 0 && position < length && position < MOST_CHARACTERS;
            return isInside ? characters[position] : 0;
        }

        private static boolean isDigit(char character) {
            return character >= '0' && character <= '9';
        }
    }

    /** The line that was written last. */
    private static final class Line {
        // Far above the longest line: ten digits of coins, and ten characters more.
        private static final int MOST_CHARACTERS = 32;

        private final char[] characters = new char[MOST_CHARACTERS];
        private int length = 0;

        int length() {
            return length;
        }

        char at(int index) {
            return index >= 0 && index < MOST_CHARACTERS ? characters[index] : 0;
        }

        void writeMember(Club club, int member) {
            length = 0;
            addNumber(club.of(member, Club.COINS));
            add('@');
            addNumber(club.of(member, Club.HEIGHT));
            if (club.hasWagered(member)) {
                add('=');
                addNumber(club.of(member, Club.GUESS));
                add('/');
                addNumber(club.of(member, Club.STAKE));
            }
            if (club.hasTapped(member)) {
                add('!');
            }
        }

        void writeHeights(Club club) {
            length = 0;
            for (int height = 0; height <= HIGHEST; height++) {
                int member = club.ownerOf(height);
                add(member == NONE ? '.' : digit(member));
            }
        }

        private void addNumber(int number) {
            int unit = 1;
            for (int digits = 1; digits < 10 && unit <= number / 10; digits++) {
                unit *= 10;
            }
            for (; unit > 0; unit /= 10) {
                add(digit(number / unit % 10));
            }
        }

        private static char digit(int value) {
            return (char) ('0' + value);
        }

        private void add(char character) {
            if (length >= 0 && length < MOST_CHARACTERS) {
                characters[length] = character;
                length++;
            }
        }
    }
}
