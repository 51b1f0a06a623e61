import java.util.ArrayList;
import java.util.NoSuchElementException;

/** An office for storm flags; ../shared/DOC.md says what each call promises. */
public final class StormFlags {
    public static final int NONE = -1;

    private static final int LAST_HOUR = 2000;
    private static final int MOST_HOURS_A_CALL = 200;
    private static final int HOURS_A_WATCH = 8;
    private static final int LAST_WATCH = 250;
    private static final int OFFICE_BEHIND_WATCH = 2;
    private static final int HOURS_FLOWN = 24;

    private static final int LAST_PLACE = 15;
    private static final int LAST_COAST = 3;
    private static final int LONGEST_WIRE = 12;
    private static final int LOWEST_GLASS = 9000;
    private static final int HIGHEST_GLASS = 10500;
    private static final int HIGHEST_WIND = 12;
    private static final int LOWEST_FORCE = 8;
    private static final int HIGHEST_FORCE = 12;
    private static final int BOLDEST = 2;
    private static final int HIGHEST_STRENGTH = 13;
    private static final int LONGEST_TRIP = 48;
    private static final int FULL_WEIGHT = 1000;

    private static final int MOST_PORTS = 12;
    private static final int MOST_REPORTS = 300;
    private static final int MOST_WARNINGS = 200;
    private static final int MOST_GALES = 30;
    private static final int MOST_BOATS = 12;

    private static final int BYTES_FED = 20;
    private static final int LONGEST_TAPE = 400;

    private static final int CONE = 0;
    private static final int DRUM = 1;
    private static final int CONE_SEEN = 1;
    private static final int DRUM_SEEN = 2;

    private final Tape tape;
    private final ArrayList<Port> ports;
    private final ArrayList<Warning> warnings;
    private final ArrayList<Gale> gales;
    private final ArrayList<Boat> boats;
    private final Outlook outlook;
    private RuleBook standing;
    private RuleBook draft;
    private int wrongByte;
    private int reportsTold;
    private int now;

    public StormFlags() {
        tape = new Tape();
        ports = new ArrayList<Port>();
        warnings = new ArrayList<Warning>();
        gales = new ArrayList<Gale>();
        boats = new ArrayList<Boat>();
        outlook = new Outlook();
        standing = new RuleBook();
        draft = new RuleBook();
        wrongByte = NONE;
        reportsTold = 0;
        now = 0;
    }

    public int feed(int a, int b, int c, int d, int e) {
        if (!tape.hasRoomFor(BYTES_FED)) {
            return NONE;
        }
        tape.append(a);
        tape.append(b);
        tape.append(c);
        tape.append(d);
        tape.append(e);
        return tape.length();
    }

    public boolean end(int n) {
        return tape.cutTo(n);
    }

    public int port(int x, int y, int coast, int wire)
            throws IllegalArgumentException, UnsupportedOperationException {
        if (!isPlace(x, y) || !within(coast, 0, LAST_COAST) || !within(wire, 0, LONGEST_WIRE)) {
            throw new IllegalArgumentException("a number is none of a port");
        }
        int number = ports.size();
        if (number >= MOST_PORTS) {
            throw new UnsupportedOperationException("there are 12 ports");
        }
        ports.add(new Port(number, x, y, coast, wire));
        return number;
    }

    public int report(int port, int watch, int glass, int wind)
            throws IndexOutOfBoundsException, IllegalArgumentException, UnsupportedOperationException {
        Port teller = portNumbered(port);
        if (!isWatchBegun(watch) || !within(glass, LOWEST_GLASS, HIGHEST_GLASS)
                || !within(wind, 0, HIGHEST_WIND)) {
            throw new IllegalArgumentException("a number is none of a report");
        }
        int number = reportsTold;
        if (number >= MOST_REPORTS) {
            throw new UnsupportedOperationException("there are 300 reports");
        }
        Report earlier = teller.latest;
        teller.latest = new Report(number, watch, glass, wind, now + teller.wire, earlier);
        reportsTold = number + 1;
        return number;
    }

    public int counts(int port, int watch, int hour) throws IndexOutOfBoundsException {
        Report counting = portNumbered(port).countingReport(watch, hour);
        return counting == null ? NONE : counting.number;
    }

    public int field(int x, int y, int watch, int hour) throws IllegalArgumentException {
        if (!isPlace(x, y)) {
            throw new IllegalArgumentException("the place is none");
        }
        return glassAt(x, y, watch, hour);
    }

    public int rules() throws IllegalArgumentException {
        wrongByte = draft.readFrom(tape);
        tape.cutTo(0);
        if (wrongByte != NONE) {
            throw new IllegalArgumentException("the text is wrong");
        }
        // The two books change places, so that a text costs no new rows.
        RuleBook replaced = standing;
        standing = draft;
        draft = replaced;
        return standing.size();
    }

    public int fault() {
        return wrongByte;
    }

    public int gale(int port, int from, int to, int force)
            throws IndexOutOfBoundsException, IllegalArgumentException, UnsupportedOperationException {
        Port place = portNumbered(port);
        if (!isHourToCome(from) || !within(to, from, LAST_HOUR)
                || !within(force, LOWEST_FORCE, HIGHEST_FORCE)) {
            throw new IllegalArgumentException("an hour or the force is none of a gale");
        }
        int number = gales.size();
        if (number >= MOST_GALES) {
            throw new UnsupportedOperationException("there are 30 gales");
        }
        gales.add(new Gale(place.number, from, to, force));
        return number;
    }

    public int boat(int port, int bold, int strength)
            throws IndexOutOfBoundsException, IllegalArgumentException, UnsupportedOperationException {
        Port home = portNumbered(port);
        if (!within(bold, 0, BOLDEST) || !within(strength, LOWEST_FORCE, HIGHEST_STRENGTH)) {
            throw new IllegalArgumentException("a number is none of a boat");
        }
        int number = boats.size();
        if (number >= MOST_BOATS) {
            throw new UnsupportedOperationException("there are 12 boats");
        }
        boats.add(new Boat(home, bold, strength));
        return number;
    }

    public boolean trip(int boat, int hour, int hours)
            throws IndexOutOfBoundsException, IllegalArgumentException {
        Boat sailer = boatNumbered(boat);
        if (!isHourToCome(hour) || !within(hours, 1, LONGEST_TRIP)) {
            throw new IllegalArgumentException("the hour or the hours are none of a trip");
        }
        return sailer.plan(hour, hours);
    }

    public int hours(int n) throws IllegalArgumentException {
        if (!within(n, 0, MOST_HOURS_A_CALL)) {
            throw new IllegalArgumentException("not 0 to 200 hours");
        }
        for (int i = 0; i < n && now < LAST_HOUR; i++) {
            passHour();
        }
        return now;
    }

    public int flies(int port, int hour) throws IndexOutOfBoundsException {
        return flagsSeen(portNumbered(port), hour);
    }

    public int warning(int warning, int what) throws IndexOutOfBoundsException, NoSuchElementException {
        if (warning < 0 || warning >= warnings.size()) {
            throw new IndexOutOfBoundsException("no such warning");
        }
        Warning sent = warnings.get(warning);
        switch (what) {
            case 0: return sent.hour;
            case 1: return sent.coast;
            case 2: return sent.flag;
            case 3: return sent.rule;
            default: throw new NoSuchElementException("a warning has no such what");
        }
    }

    public int look(int boat, int what) throws IndexOutOfBoundsException, NoSuchElementException {
        Boat seen = boatNumbered(boat);
        switch (what) {
            case 0: return seen.state;
            case 1: return seen.timesSailed;
            case 2: return seen.timesStayed;
            case 3: return seen.hour;
            default: throw new NoSuchElementException("a boat has no such what");
        }
    }

    public int score(int port, int what) throws IndexOutOfBoundsException, NoSuchElementException {
        Port place = portNumbered(port);
        switch (what) {
            case 0: return galesBegun(place, true);
            case 1: return galesBegun(place, false);
            case 2: return warningsInVain(place);
            case 3: return warningsArrived(place);
            default: throw new NoSuchElementException("a port has no such what");
        }
    }

    public int count(int what) {
        switch (what) {
            case 0: return now;
            case 1: return ports.size();
            case 2: return reportsTold;
            case 3: return standing.size();
            case 4: return warnings.size();
            case 5: return gales.size();
            case 6: return boats.size();
            case 7: return boatsThatAre(Boat.LOST);
            case 8: return boatsThatAre(Boat.AT_SEA);
            default: return NONE;
        }
    }

    private static boolean within(int number, int lowest, int highest) {
        return number >= lowest && number <= highest;
    }

    private static boolean isPlace(int x, int y) {
        return within(x, 0, LAST_PLACE) && within(y, 0, LAST_PLACE);
    }

    private boolean isWatchBegun(int watch) {
        return within(watch, 0, LAST_WATCH) && watch * HOURS_A_WATCH <= now;
    }

    private boolean isHourToCome(int hour) {
        return hour > now && hour <= LAST_HOUR;
    }

    private Port portNumbered(int port) {
        if (port < 0 || port >= ports.size()) {
            throw new IndexOutOfBoundsException("no such port");
        }
        return ports.get(port);
    }

    private Boat boatNumbered(int boat) {
        if (boat < 0 || boat >= boats.size()) {
            throw new IndexOutOfBoundsException("no such boat");
        }
        return boats.get(boat);
    }

    private int glassAt(int x, int y, int watch, int hour) {
        int weighed = 0;
        int weights = 0;
        for (int i = 0; i < ports.size(); i++) {
            Port port = ports.get(i);
            Report counting = port.countingReport(watch, hour);
            if (counting != null) {
                int weight = port.weightAt(x, y);
                weighed += counting.glass * weight;
                weights += weight;
            }
        }
        return weights <= 0 ? NONE : weighed / weights;
    }

    private void passHour() {
        now++;
        if (isOfficeHour()) {
            doOfficeWork();
        }
        for (int i = 0; i < boats.size(); i++) {
            passHourOf(boats.get(i));
        }
    }

    private boolean isOfficeHour() {
        // Hour 2 would be that of watch 0, which has no watch ahead of it.
        return now > OFFICE_BEHIND_WATCH && now % HOURS_A_WATCH == OFFICE_BEHIND_WATCH;
    }

    private void doOfficeWork() {
        int watch = (now - OFFICE_BEHIND_WATCH) / HOURS_A_WATCH;
        for (int coast = 0; coast <= LAST_COAST; coast++) {
            if (drawOutlook(coast, watch)) {
                sendWarnings(coast);
            }
        }
    }

    /** False where the coast has no ports, and so neither a place nor warnings. */
    private boolean drawOutlook(int coast, int watch) {
        int sumX = 0;
        int sumY = 0;
        int members = 0;
        int wind = NONE;
        for (int i = 0; i < ports.size(); i++) {
            Port port = ports.get(i);
            if (port.coast == coast) {
                sumX += port.x;
                sumY += port.y;
                members++;
                wind = Math.max(wind, port.windKnown(watch, now));
            }
        }
        if (members <= 0) {
            return false;
        }
        int x = sumX / members;
        int y = sumY / members;
        outlook.coast = coast;
        outlook.glassBefore = glassAt(x, y, watch - 1, now);
        outlook.glass = glassAt(x, y, watch, now);
        outlook.wind = wind;
        return true;
    }

    private void sendWarnings(int coast) {
        for (int rule = 0; rule < standing.size(); rule++) {
            if (warnings.size() < MOST_WARNINGS && standing.holds(rule, outlook)) {
                warnings.add(new Warning(now, coast, standing.flagOf(rule), rule, ports.size()));
            }
        }
    }

    private void passHourOf(Boat boat) {
        boat.comeHomeIfDue(now);
        if (boat.isToSailAt(now)) {
            boat.sailOrStay(flagsSeen(boat.home, now));
        }
        if (boat.state == Boat.AT_SEA && isGaleTooStrong(boat)) {
            boat.goDown(now);
        }
    }

    private boolean isGaleTooStrong(Boat boat) {
        for (int i = 0; i < gales.size(); i++) {
            Gale gale = gales.get(i);
            if (gale.force >= boat.strength && gale.blows(boat.home, now, now)) {
                return true;
            }
        }
        return false;
    }

    private int flagsSeen(Port port, int hour) {
        int seen = 0;
        for (int i = 0; i < warnings.size(); i++) {
            Warning warning = warnings.get(i);
            if (warning.isFor(port) && within(hour, warning.firstHour(port), warning.lastHour(port))) {
                seen |= warning.flag == DRUM ? DRUM_SEEN : CONE_SEEN;
            }
        }
        return seen;
    }

    private int galesBegun(Port port, boolean warned) {
        int begun = 0;
        for (int i = 0; i < gales.size(); i++) {
            Gale gale = gales.get(i);
            if (gale.port == port.number && gale.from <= now
                    && (flagsSeen(port, gale.from) != 0) == warned) {
                begun++;
            }
        }
        return begun;
    }

    private int warningsArrived(Port port) {
        int arrived = 0;
        for (int i = 0; i < warnings.size(); i++) {
            Warning warning = warnings.get(i);
            if (warning.isFor(port) && warning.firstHour(port) <= now) {
                arrived++;
            }
        }
        return arrived;
    }

    private int warningsInVain(Port port) {
        int vain = 0;
        for (int i = 0; i < warnings.size(); i++) {
            Warning warning = warnings.get(i);
            if (warning.isFor(port) && warning.lastHour(port) < now
                    && !blowsAtAll(port, warning.firstHour(port), warning.lastHour(port))) {
                vain++;
            }
        }
        return vain;
    }

    private boolean blowsAtAll(Port port, int first, int last) {
        for (int i = 0; i < gales.size(); i++) {
            if (gales.get(i).blows(port, first, last)) {
                return true;
            }
        }
        return false;
    }

    private int boatsThatAre(int state) {
        int found = 0;
        for (int i = 0; i < boats.size(); i++) {
            if (boats.get(i).state == state) {
                found++;
            }
        }
        return found;
    }

    /**
     * The bytes fed, and the place up to which they are read. Each take.. moves past
     * the thing that it takes and the blanks behind it, and stays where it takes none:
     * so the place is always the begin of the next thing, or the text's length.
     */
    private static final class Tape {
        private static final int BYTES_A_NUMBER = 4;
        private static final int BITS_A_BYTE = 8;
        private static final int MOST_DIGITS = 5;

        private final int[] bytes;
        private int length;
        private int place;

        Tape() {
            bytes = new int[LONGEST_TAPE];
            length = 0;
            place = 0;
        }

        int length() {
            return length;
        }

        int place() {
            return place;
        }

        boolean hasRoomFor(int more) {
            return length + more <= LONGEST_TAPE;
        }

        void append(int number) {
            for (int i = BYTES_A_NUMBER - 1; i >= 0; i--) {
                if (length < bytes.length) {
                    bytes[length] = (number >>> (i * BITS_A_BYTE)) & 255;
                    length++;
                }
            }
        }

        boolean cutTo(int n) {
            if (n < 0 || n > length) {
                return false;
            }
            length = n;
            return true;
        }

        void rewind() {
            moveTo(0);
        }

        boolean isReadUp() {
            return place >= length;
        }

        boolean takeSign(char sign) {
            if (byteAt(place) != sign) {
                return false;
            }
            moveTo(place + 1);
            return true;
        }

        boolean takeWord(String word) {
            int behind = endOfRun('a', 'z');
            if (behind - place != word.length()) {
                return false;
            }
            for (int i = 0; i < word.length(); i++) {
                if (byteAt(place + i) != word.charAt(i)) {
                    return false;
                }
            }
            moveTo(behind);
            return true;
        }

        int takeNumber() {
            int behind = endOfRun('0', '9');
            if (!within(behind - place, 1, MOST_DIGITS)) {
                return NONE;
            }
            int value = 0;
            for (int i = place; i < behind; i++) {
                value = value * 10 + byteAt(i) - '0';
            }
            moveTo(behind);
            return value;
        }

        private void moveTo(int next) {
            place = next;
            while (place < length && byteAt(place) == ' ') {
                place++;
            }
        }

        private int endOfRun(char lowest, char highest) {
            int behind = place;
            while (behind < length && byteAt(behind) >= lowest && byteAt(behind) <= highest) {
                behind++;
            }
            return behind;
        }

        private int byteAt(int i) {
            return i >= 0 && i < length && i < bytes.length ? bytes[i] : NONE;
        }
    }

    /** The rules of one text; its rows are made once and filled anew by each reading. */
    private static final class RuleBook {
        private static final int MOST_RULES = 8;
        private static final int MOST_CONDITIONS = 4;

        private final int[] flags;
        private final int[] conditions;
        private final int[][] kinds;
        private final int[][] numbers;
        private int size;

        RuleBook() {
            flags = new int[MOST_RULES];
            conditions = new int[MOST_RULES];
            kinds = new int[MOST_RULES][MOST_CONDITIONS];
            numbers = new int[MOST_RULES][MOST_CONDITIONS];
            size = 0;
        }

        int size() {
            return size;
        }

        int flagOf(int rule) {
            return rule >= 0 && rule < size ? flags[rule] : CONE;
        }

        boolean holds(int rule, Outlook outlook) {
            if (rule < 0 || rule >= size) {
                return false;
            }
            for (int i = 0; i < conditions[rule]; i++) {
                if (!outlook.meets(kinds[rule][i], numbers[rule][i])) {
                    return false;
                }
            }
            return true;
        }

        /** Answers the first wrong byte, or NONE. */
        int readFrom(Tape tape) {
            size = 0;
            tape.rewind();
            if (tape.isReadUp()) {
                return NONE;
            }
            for (int rule = 0; rule < MOST_RULES; rule++) {
                if (!readRule(tape, rule)) {
                    return tape.place();
                }
                size = rule + 1;
                if (tape.isReadUp()) {
                    return NONE;
                }
                if (!tape.takeSign(';')) {
                    return tape.place();
                }
            }
            // Behind the last rule's ; stands a rule too many, or nothing where one must come.
            return tape.place();
        }

        private boolean readRule(Tape tape, int rule) {
            int flag = readFlag(tape);
            if (flag == NONE) {
                return false;
            }
            flags[rule] = flag;
            for (int i = 0; i < MOST_CONDITIONS; i++) {
                if (!readCondition(tape, rule, i)) {
                    return false;
                }
                conditions[rule] = i + 1;
                // An and behind the last one is left on the tape, where only ; or nothing may stand.
                if (i + 1 == MOST_CONDITIONS || !tape.takeWord("and")) {
                    return true;
                }
            }
            return true;
        }

        private boolean readCondition(Tape tape, int rule, int i) {
            int kind = readKind(tape);
            if (kind == NONE || !tape.takeSign(Outlook.signOf(kind))) {
                return false;
            }
            int number = tape.takeNumber();
            if (number == NONE) {
                return false;
            }
            kinds[rule][i] = kind;
            numbers[rule][i] = number;
            return true;
        }

        private static int readFlag(Tape tape) {
            if (tape.takeWord("cone")) {
                return CONE;
            }
            return tape.takeWord("drum") ? DRUM : NONE;
        }

        private static int readKind(Tape tape) {
            if (tape.takeWord("fall")) {
                return Outlook.FALL;
            }
            if (tape.takeWord("low")) {
                return Outlook.LOW;
            }
            if (tape.takeWord("wind")) {
                return Outlook.WIND;
            }
            return tape.takeWord("coast") ? Outlook.COAST : NONE;
        }
    }

    /** What the office knows of one coast at its hour; one object, drawn anew for each coast. */
    private static final class Outlook {
        static final int FALL = 0;
        static final int LOW = 1;
        static final int WIND = 2;
        static final int COAST = 3;

        private int coast;
        private int glassBefore;
        private int glass;
        private int wind;

        Outlook() {
            coast = NONE;
            glassBefore = NONE;
            glass = NONE;
            wind = NONE;
        }

        static char signOf(int kind) {
            switch (kind) {
                case LOW: return '<';
                case COAST: return '=';
                default: return '>';
            }
        }

        boolean meets(int kind, int number) {
            switch (kind) {
                case FALL: return glassBefore != NONE && glass != NONE && glassBefore - glass > number;
                case LOW: return glass != NONE && glass < number;
                // Every number of a text is above NONE, so no unknown wind is above it.
                case WIND: return wind > number;
                case COAST: return coast == number;
                default: return false;
            }
        }
    }

    /** A port, with the chain of its reports from the one told last on. */
    private static final class Port {
        private final int number;
        private final int x;
        private final int y;
        private final int coast;
        private final int wire;
        private Report latest;

        Port(int number, int x, int y, int coast, int wire) {
            this.number = number;
            this.x = x;
            this.y = y;
            this.coast = coast;
            this.wire = wire;
            this.latest = null;
        }

        /** Null where none counts. */
        Report countingReport(int watch, int hour) {
            for (Report told = latest; told != null; told = told.earlier) {
                if (told.watch == watch && told.knownFrom <= hour) {
                    return told;
                }
            }
            return null;
        }

        int windKnown(int watch, int hour) {
            Report counting = countingReport(watch, hour);
            return counting == null ? NONE : counting.wind;
        }

        int weightAt(int otherX, int otherY) {
            int apart = 1 + (x - otherX) * (x - otherX) + (y - otherY) * (y - otherY);
            return within(apart, 1, FULL_WEIGHT) ? FULL_WEIGHT / apart : 1;
        }
    }

    /** A report, and the one that the same port told ahead of it, if any. */
    private static final class Report {
        private final int number;
        private final int watch;
        private final int glass;
        private final int wind;
        private final int knownFrom;
        private final Report earlier;

        Report(int number, int watch, int glass, int wind, int knownFrom, Report earlier) {
            this.number = number;
            this.watch = watch;
            this.glass = glass;
            this.wind = wind;
            this.knownFrom = knownFrom;
            this.earlier = earlier;
        }
    }

    /** A warning; it goes to none of the ports that came after it was sent. */
    private static final class Warning {
        private final int hour;
        private final int coast;
        private final int flag;
        private final int rule;
        private final int portsThen;

        Warning(int hour, int coast, int flag, int rule, int portsThen) {
            this.hour = hour;
            this.coast = coast;
            this.flag = flag;
            this.rule = rule;
            this.portsThen = portsThen;
        }

        boolean isFor(Port port) {
            return port.coast == coast && port.number < portsThen;
        }

        int firstHour(Port port) {
            return hour + port.wire;
        }

        int lastHour(Port port) {
            return firstHour(port) + HOURS_FLOWN - 1;
        }
    }

    /** A gale at the port of a number; its last hour belongs to it. */
    private static final class Gale {
        private final int port;
        private final int from;
        private final int to;
        private final int force;

        Gale(int port, int from, int to, int force) {
            this.port = port;
            this.from = from;
            this.to = to;
            this.force = force;
        }

        boolean blows(Port place, int first, int last) {
            return port == place.number && from <= last && to >= first;
        }
    }

    /** A boat; its hour is the one at which it sails, comes home or was lost, NONE at home. */
    private static final class Boat {
        static final int AT_HOME = 0;
        static final int TO_SAIL = 1;
        static final int AT_SEA = 2;
        static final int LOST = 3;

        private final Port home;
        private final int bold;
        private final int strength;
        private int state;
        private int hour;
        private int tripHours;
        private int timesSailed;
        private int timesStayed;

        Boat(Port home, int bold, int strength) {
            this.home = home;
            this.bold = bold;
            this.strength = strength;
            this.state = AT_HOME;
            this.hour = NONE;
            this.tripHours = 0;
            this.timesSailed = 0;
            this.timesStayed = 0;
        }

        boolean plan(int sailHour, int hoursAway) {
            if (state != AT_HOME) {
                return false;
            }
            state = TO_SAIL;
            hour = sailHour;
            tripHours = hoursAway;
            return true;
        }

        void comeHomeIfDue(int now) {
            if (state == AT_SEA && hour <= now) {
                restAtHome();
            }
        }

        boolean isToSailAt(int now) {
            return state == TO_SAIL && hour == now;
        }

        void sailOrStay(int flagsSeen) {
            if (fears(flagsSeen)) {
                timesStayed++;
                restAtHome();
            } else {
                timesSailed++;
                state = AT_SEA;
                hour += tripHours;
            }
        }

        void goDown(int now) {
            state = LOST;
            hour = now;
        }

        private boolean fears(int flagsSeen) {
            boolean drum = (flagsSeen & DRUM_SEEN) != 0;
            boolean cone = (flagsSeen & CONE_SEEN) != 0;
            return drum && bold <= 1 || cone && bold == 0;
        }

        private void restAtHome() {
            state = AT_HOME;
            hour = NONE;
        }
    }
}
