/**
 * A minute-by-minute simulator of a room with hygrometers: hair hygrometers whose springs slacken
 * and whose hairs break, wet bulbs that dry, salt boxes with fixed points at which the instruments
 * are checked, and an apprentice who brings hairs.
 *
 * <p>A new simulator is in the state that the text "room 60 20 2; hair 10; hair 4; bulb 30; bulb 3;
 * humidity 50; minutes 3; box 1 2; minutes 2" describes, and its buffers are empty.
 */
public final class HygrometerRoom {
    /** The result of a search that finds nothing. */
    public static final int NONE = -1;

    private static final int[] FIXED_POINTS = {33, 43, 75, 97};

    private static final int MAX_INSTRUMENTS = 6;
    private static final int MAX_HUMIDITY = 100;
    private static final int MAX_TEMPERATURE = 40;
    private static final int MAX_SKILL = 5;
    private static final int MAX_HAIRS = 20;
    private static final int MAX_WATER = 60;
    private static final int MAX_SLACK = 50;
    private static final int MAX_USABLE_SLACK = 25;
    private static final int SLACK_PER_PART = 5;
    private static final int MAX_STOCK = 99;
    private static final int MAX_MINUTE = 9999;
    private static final int MAX_ADVANCE = 99;
    private static final int MAX_FORECAST = 200;
    private static final int MAX_DIGITS = 3;
    private static final int BULB_WEIGHT = 5;
    private static final int HAIR_PACE = 20;
    private static final int BRITTLE_BELOW = 20;
    private static final int MINUTES_PER_SLACK = 10;
    private static final int MINUTES_PER_BRINGING = 60;

    private static final int INPUT_SIZE = 600;
    private static final int APPENDED = 20;
    /** Six readings of at most three digits and the spaces between them need 23 bytes. */
    private static final int OUTPUT_SIZE = 24;
    private static final int HISTORY_SIZE = 10;
    private static final int SLOTS = 2;

    private static final int SYNTAX = 1;
    private static final int OUT_OF_RANGE = 2;
    private static final int WRONG_KIND = 3;
    private static final int TOO_MANY = 4;
    private static final int REFUSED = 5;

    private static final int END = 0;
    private static final int WORD = 1;
    private static final int NUMBER = 2;
    private static final int SEMICOLON = 3;
    private static final int BLANK = 4;
    private static final int BAD = 5;

    private final Room room = new Room();
    private final Reader reader = new Reader();
    private final History history = new History();
    private final Slots slots = new Slots();
    private final Output output = new Output();
    private final Instrument probe = new Instrument();

    /** Creates the simulator in the state that the class comment describes. */
    public HygrometerRoom() {
        room.begin(60, 20, 2);
        room.newHair(10);
        room.newHair(4);
        room.newBulb(30);
        room.newBulb(3);
        room.humidity = 50;
        room.pass(3);
        room.instruments[1].box = 2;
        room.pass(2);
    }

    // ---- input

    /** Appends the 20 bytes of five numbers to the input buffer and returns its new length. */
    public int append(int a, int b, int c, int d, int e) throws IllegalStateException {
        if (reader.tokens.filled > INPUT_SIZE - APPENDED) {
            throw new IllegalStateException("the input buffer is full");
        }
        reader.tokens.put(a);
        reader.tokens.put(b);
        reader.tokens.put(c);
        reader.tokens.put(d);
        reader.tokens.put(e);
        return reader.tokens.filled;
    }

    /** Parses the first bytes of the input buffer and returns the number of instruments. */
    public int load(int length) throws IndexOutOfBoundsException, IllegalArgumentException {
        if (length < 0 || length > reader.tokens.filled) {
            throw new IndexOutOfBoundsException("the input buffer has no such length");
        }
        reader.parse(length);
        if (reader.errorKind != 0) {
            throw new IllegalArgumentException("the text has an error");
        }
        room.copyFrom(reader.draft);
        history.forget();
        slots.forget();
        return room.count;
    }

    /** Returns the kind of the error that the last call of load() reported, 0 without one. */
    public int errorKind() {
        return reader.errorKind;
    }

    /** Returns the offset of the error that the last call of load() reported, or NONE. */
    public int errorOffset() {
        return reader.errorOffset;
    }

    // ---- room

    /** Returns the minute number. */
    public int minute() {
        return room.minute;
    }

    /** Returns the humidity of the room. */
    public int humidity() {
        return room.humidity;
    }

    /** Returns the temperature. */
    public int temperature() {
        return room.temperature;
    }

    /** Returns the skill of the apprentice. */
    public int skill() {
        return room.skill;
    }

    /** Returns the stock of hairs. */
    public int hairStock() {
        return room.stock;
    }

    /** Returns the fixed point of a salt. */
    public int fixedPoint(int salt) throws IllegalArgumentException {
        if (!isSalt(salt)) {
            throw new IllegalArgumentException("no such salt");
        }
        return fixedPointOr(salt, NONE);
    }

    // ---- instruments

    /** Returns the number of instruments. */
    public int instrumentCount() {
        return room.count;
    }

    /** Tells whether an instrument is a hair hygrometer. */
    public boolean isHair(int instrument) throws IndexOutOfBoundsException {
        return instrumentAt(instrument).hair;
    }

    /** Returns the number of hairs of an instrument; NONE for a wet bulb. */
    public int hairsOf(int instrument) throws IndexOutOfBoundsException {
        Instrument x = instrumentAt(instrument);
        return x.hair ? x.hairs : NONE;
    }

    /** Returns the number of all hairs of an instrument that have broken; NONE for a wet bulb. */
    public int brokenOf(int instrument) throws IndexOutOfBoundsException {
        Instrument x = instrumentAt(instrument);
        return x.hair ? x.broken : NONE;
    }

    /** Returns the wetness of an instrument; NONE for a wet bulb. */
    public int wetnessOf(int instrument) throws IndexOutOfBoundsException {
        Instrument x = instrumentAt(instrument);
        return x.hair ? x.wetness : NONE;
    }

    /** Returns the slack of an instrument; NONE for a wet bulb. */
    public int slackOf(int instrument) throws IndexOutOfBoundsException {
        Instrument x = instrumentAt(instrument);
        return x.hair ? x.slack : NONE;
    }

    /** Returns the water of an instrument; NONE for a hair hygrometer. */
    public int waterOf(int instrument) throws IndexOutOfBoundsException {
        Instrument x = instrumentAt(instrument);
        return x.hair ? NONE : x.water;
    }

    /** Returns the depression of an instrument; NONE for a hair hygrometer. */
    public int depressionOf(int instrument) throws IndexOutOfBoundsException {
        Instrument x = instrumentAt(instrument);
        return x.hair ? NONE : room.depression(x);
    }

    /** Returns the zero of an instrument. */
    public int zeroOf(int instrument) throws IndexOutOfBoundsException {
        return instrumentAt(instrument).zero;
    }

    /** Returns the salt in whose box an instrument is; NONE if it is outside. */
    public int boxOf(int instrument) throws IndexOutOfBoundsException {
        return instrumentAt(instrument).box;
    }

    /** Returns the surrounding humidity of an instrument. */
    public int surroundingOf(int instrument) throws IndexOutOfBoundsException {
        return room.surrounding(instrumentAt(instrument));
    }

    /** Returns the raw value of an instrument, possibly negative. */
    public int rawValue(int instrument) throws IndexOutOfBoundsException {
        return room.raw(instrumentAt(instrument));
    }

    /** Returns the reading of an instrument. */
    public int readingOf(int instrument) throws IndexOutOfBoundsException {
        return room.reading(instrumentAt(instrument));
    }

    /** Returns the reading of an instrument minus its surrounding humidity. */
    public int errorOf(int instrument) throws IndexOutOfBoundsException {
        Instrument x = instrumentAt(instrument);
        return room.reading(x) - room.surrounding(x);
    }

    /** Tells whether an instrument is settled. */
    public boolean isSettled(int instrument) throws IndexOutOfBoundsException {
        return room.settled(instrumentAt(instrument));
    }

    /** Returns the first reason why an instrument is unusable, 1 to 3; 0 if it is usable. */
    public int whyUnusable(int instrument) throws IndexOutOfBoundsException {
        return instrumentAt(instrument).flaw();
    }

    /** Returns the weight of an instrument in the blend. */
    public int weightOf(int instrument) throws IndexOutOfBoundsException {
        return instrumentAt(instrument).weight();
    }

    /** Returns the first reason against a calibration, 1 or 2; 0 if there is no obstacle. */
    public int calibrationObstacle(int instrument) throws IndexOutOfBoundsException {
        return room.obstacle(instrumentAt(instrument));
    }

    // ---- comparisons

    /** Counts the usable instruments. */
    public int usableInstruments() {
        return room.countUsable();
    }

    /** Returns the blend; NONE if there is no blend. */
    public int blend() {
        return room.blended();
    }

    /** Finds the usable instrument whose reading is nearest to the humidity of the room. */
    public int bestInstrument() {
        return room.nearest();
    }

    /** Finds the hair hygrometer with the greatest slack. */
    public int slackestInstrument() {
        return room.slackest();
    }

    /** Counts the settled instruments in salt boxes whose reading is not the fixed point. */
    public int disagreements() {
        return room.countDisagreeing();
    }

    /** Returns the greatest difference of the readings of two usable instruments. */
    public int spread() {
        return room.readingSpan();
    }

    // ---- forecasts: what would happen if only minutes passed; nothing changes

    /** Forecasts the reading of an instrument after 0 to 200 minutes. */
    public int readingAfter(int instrument, int minutes)
            throws IndexOutOfBoundsException, IllegalArgumentException {
        probe.copyFrom(instrumentAt(instrument));
        if (minutes < 0 || minutes > MAX_FORECAST) {
            throw new IllegalArgumentException("the minutes are out of range");
        }
        for (int passed = 1; passed <= minutes; passed++) {
            probe.age(room.minute + passed, room.surrounding(probe));
        }
        return room.reading(probe);
    }

    /** Forecasts when a hair hygrometer is settled, or when a wet bulb has no water. */
    public int minutesUntilStill(int instrument) throws IndexOutOfBoundsException {
        probe.copyFrom(instrumentAt(instrument));
        for (int passed = 0; passed <= MAX_FORECAST; passed++) {
            if (room.still(probe)) {
                return passed;
            }
            probe.age(room.minute + passed + 1, room.surrounding(probe));
        }
        return NONE;
    }

    // ---- measures

    /** Checks the hairs: the difference of those that are here and those that came; always 0. */
    public int hairDifference() {
        return Math.abs(room.hairsHere() - room.hairsThatCame());
    }

    /** Returns the mean reading of all instruments; 0.0 without instruments. */
    public double meanReading() {
        if (room.count == 0) {
            return 0.0;
        }
        return (double) room.sumOfReadings() / (double) room.count;
    }

    /** Returns the share of the instruments that are usable; 0.0f without instruments. */
    public float usableShare() {
        if (room.count == 0) {
            return 0.0f;
        }
        return (float) room.countUsable() / (float) room.count;
    }

    // ---- changes

    /** Lets 1 to 99 minutes pass and returns the number of hairs that were brought. */
    public int advance(int minutes) throws IllegalArgumentException, IllegalStateException {
        if (minutes < 1 || minutes > MAX_ADVANCE) {
            throw new IllegalArgumentException("the minutes are out of range");
        }
        if (minutes > MAX_MINUTE - room.minute) {
            throw new IllegalStateException("the minute number would be too great");
        }
        history.record(room);
        return room.pass(minutes);
    }

    /** Sets the humidity of the room and returns the previous one. */
    public int setHumidity(int humidity) throws IllegalArgumentException {
        if (humidity < 0 || humidity > MAX_HUMIDITY) {
            throw new IllegalArgumentException("the humidity is out of range");
        }
        history.record(room);
        int before = room.humidity;
        room.humidity = humidity;
        return before;
    }

    /** Sets the temperature and returns the previous one. */
    public int setTemperature(int temperature) throws IllegalArgumentException {
        if (temperature < 0 || temperature > MAX_TEMPERATURE) {
            throw new IllegalArgumentException("the temperature is out of range");
        }
        history.record(room);
        int before = room.temperature;
        room.temperature = temperature;
        return before;
    }

    /** Sets the skill of the apprentice and returns the previous one. */
    public int setSkill(int skill) throws IllegalArgumentException {
        if (skill < 0 || skill > MAX_SKILL) {
            throw new IllegalArgumentException("the skill is out of range");
        }
        history.record(room);
        int before = room.skill;
        room.skill = skill;
        return before;
    }

    /** Puts an instrument into a salt box and returns the fixed point. */
    public int putInBox(int instrument, int salt)
            throws IndexOutOfBoundsException, IllegalArgumentException, IllegalStateException {
        Instrument x = instrumentAt(instrument);
        if (!isSalt(salt)) {
            throw new IllegalArgumentException("no such salt");
        }
        if (x.isBoxed()) {
            throw new IllegalStateException("the instrument is in a box");
        }
        history.record(room);
        x.box = salt;
        return room.surrounding(x);
    }

    /** Takes an instrument out of its box and returns the salt of the box. */
    public int takeOut(int instrument) throws IndexOutOfBoundsException, IllegalStateException {
        Instrument x = instrumentAt(instrument);
        if (!x.isBoxed()) {
            throw new IllegalStateException("the instrument is outside");
        }
        history.record(room);
        int before = x.box;
        x.box = NONE;
        return before;
    }

    /** Calibrates an instrument and returns its previous zero. */
    public int calibrate(int instrument) throws IndexOutOfBoundsException, IllegalStateException {
        Instrument x = instrumentAt(instrument);
        if (room.obstacle(x) != 0) {
            throw new IllegalStateException("the instrument cannot be calibrated");
        }
        history.record(room);
        int before = x.zero;
        x.zero = room.surrounding(x) - room.raw(x);
        return before;
    }

    /** Tightens the spring of a hair hygrometer and returns its slack before. */
    public int tighten(int instrument) throws IndexOutOfBoundsException, IllegalStateException {
        Instrument x = instrumentAt(instrument);
        if (!x.hair || x.hairs == 0) {
            throw new IllegalStateException("the instrument has no hairs");
        }
        history.record(room);
        int before = x.slack;
        x.tightenSpring();
        return before;
    }

    /** Moistens a wet bulb and returns its water before. */
    public int moisten(int instrument) throws IndexOutOfBoundsException, IllegalStateException {
        Instrument x = instrumentAt(instrument);
        if (x.hair) {
            throw new IllegalStateException("the instrument is a hair hygrometer");
        }
        history.record(room);
        int before = x.water;
        x.water = MAX_WATER;
        return before;
    }

    /** Adds hairs from the stock to a hair hygrometer and returns the number of its hairs then. */
    public int addHairs(int instrument, int hairs)
            throws IndexOutOfBoundsException, IllegalArgumentException, IllegalStateException {
        Instrument x = instrumentAt(instrument);
        if (hairs < 1 || hairs > MAX_HAIRS) {
            throw new IllegalArgumentException("the hairs are out of range");
        }
        if (!x.hair || room.stock < hairs || x.hairs + hairs > MAX_HAIRS) {
            throw new IllegalStateException("the instrument cannot get so many hairs");
        }
        history.record(room);
        room.stock -= hairs;
        x.hairs += hairs;
        return x.hairs;
    }

    /** Restores a saved state and returns its minute number. */
    public int restore(int slot) throws IndexOutOfBoundsException, IllegalStateException {
        if (!isSlot(slot)) {
            throw new IndexOutOfBoundsException("no such slot");
        }
        Room saved = slots.find(slot);
        if (saved == null) {
            throw new IllegalStateException("nothing is saved in the slot");
        }
        history.record(room);
        room.copyFrom(saved);
        return room.minute;
    }

    // ---- undo and saved states

    /** Undoes the last change and returns the number of changes that can still be undone. */
    public int undo() throws IllegalStateException {
        if (history.kept == 0) {
            throw new IllegalStateException("there is no change to undo");
        }
        history.takeBack(room);
        return history.kept;
    }

    /** Saves the state in a slot and returns its minute number. */
    public int save(int slot) throws IndexOutOfBoundsException {
        if (!isSlot(slot)) {
            throw new IndexOutOfBoundsException("no such slot");
        }
        slots.keep(slot, room);
        return room.minute;
    }

    // ---- output

    /** Writes an instrument to the output buffer and returns the length of the output. */
    public int writeInstrument(int instrument) throws IndexOutOfBoundsException {
        Instrument x = instrumentAt(instrument);
        output.length = 0;
        output.sign(x.hair ? 'h' : 'b');
        output.number(room.reading(x));
        if (room.settled(x)) {
            output.sign('*');
        }
        if (x.isBoxed()) {
            output.sign('s');
            output.number(x.box);
        }
        return output.length;
    }

    /** Writes all readings to the output buffer and returns the length of the output. */
    public int writeReadings() {
        output.length = 0;
        for (int i = 0; i < room.count; i++) {
            if (i > 0) {
                output.sign(' ');
            }
            output.number(room.reading(room.instruments[i]));
        }
        return output.length;
    }

    /** Returns a byte of the output buffer. */
    public int outputByte(int index) throws IndexOutOfBoundsException {
        if (index < 0 || index >= output.length) {
            throw new IndexOutOfBoundsException("no such byte");
        }
        return output.bytes[index];
    }

    private Instrument instrumentAt(int number) {
        Instrument found = room.find(number);
        if (found == null) {
            throw new IndexOutOfBoundsException("no such instrument");
        }
        return found;
    }

    private static boolean isSalt(int salt) {
        return salt >= 0 && salt < FIXED_POINTS.length;
    }

    private static boolean isSlot(int slot) {
        return slot >= 0 && slot < SLOTS;
    }

    private static int fixedPointOr(int salt, int otherwise) {
        return salt >= 0 && salt < FIXED_POINTS.length ? FIXED_POINTS[salt] : otherwise;
    }

    /** Divides; the divisors here are never 0, yet none divides before it has been looked at. */
    private static int quotient(int dividend, int divisor) {
        return divisor == 0 ? 0 : dividend / divisor;
    }

    /** One instrument; the numbers that only the other kind has stay 0. */
    private static final class Instrument {
        boolean hair;
        int hairs;
        int hairsAtFirst;
        int broken;
        int wetness;
        int slack;
        int water;
        int zero;
        int box = NONE;

        void becomeHair(int number, int surrounding) {
            clear();
            hair = true;
            hairs = number;
            hairsAtFirst = number;
            wetness = surrounding;
        }

        void becomeBulb(int amount) {
            clear();
            water = amount;
        }

        void clear() {
            hair = false;
            hairs = 0;
            hairsAtFirst = 0;
            broken = 0;
            wetness = 0;
            slack = 0;
            water = 0;
            zero = 0;
            box = NONE;
        }

        void copyFrom(Instrument other) {
            hair = other.hair;
            hairs = other.hairs;
            hairsAtFirst = other.hairsAtFirst;
            broken = other.broken;
            wetness = other.wetness;
            slack = other.slack;
            water = other.water;
            zero = other.zero;
            box = other.box;
        }

        boolean isBoxed() {
            return box != NONE;
        }

        int flaw() {
            if (isBoxed()) {
                return 1;
            }
            if (hair ? hairs == 0 : water == 0) {
                return 2;
            }
            return slack > MAX_USABLE_SLACK ? 3 : 0;
        }

        int weight() {
            if (flaw() != 0) {
                return 0;
            }
            return hair ? hairs : BULB_WEIGHT;
        }

        void age(int minute, int surrounding) {
            if (!hair) {
                water = Math.max(0, water - 1);
                return;
            }
            if (hairs > 0) {
                moveWetness(surrounding, 1 + quotient(HAIR_PACE, hairs));
            }
            if (minute % MINUTES_PER_SLACK == 0) {
                slack = Math.min(MAX_SLACK, slack + 1);
            }
        }

        void moveWetness(int surrounding, int step) {
            if (wetness < surrounding) {
                wetness = Math.min(surrounding, wetness + step);
            } else {
                wetness = Math.max(surrounding, wetness - step);
            }
        }

        void tightenSpring() {
            slack = 0;
            if (wetness < BRITTLE_BELOW) {
                hairs--;
                broken++;
            }
        }
    }

    /** The state that can be undone and saved: the room with its instruments. */
    private static final class Room {
        final Instrument[] instruments = new Instrument[MAX_INSTRUMENTS];
        int count;
        int minute;
        int humidity;
        int temperature;
        int skill;
        int stock;
        int brought;

        Room() {
            for (int i = 0; i < instruments.length; i++) {
                instruments[i] = new Instrument();
            }
        }

        void begin(int newHumidity, int newTemperature, int newSkill) {
            count = 0;
            minute = 0;
            humidity = newHumidity;
            temperature = newTemperature;
            skill = newSkill;
            stock = 0;
            brought = 0;
        }

        void newHair(int hairs) {
            if (count < instruments.length) {
                instruments[count].becomeHair(hairs, humidity);
                count++;
            }
        }

        void newBulb(int water) {
            if (count < instruments.length) {
                instruments[count].becomeBulb(water);
                count++;
            }
        }

        void copyFrom(Room other) {
            count = other.count;
            minute = other.minute;
            humidity = other.humidity;
            temperature = other.temperature;
            skill = other.skill;
            stock = other.stock;
            brought = other.brought;
            for (int i = 0; i < count; i++) {
                instruments[i].copyFrom(other.instruments[i]);
            }
        }

        /** Returns null if there is no such instrument. */
        Instrument find(int number) {
            return number >= 0 && number < count ? instruments[number] : null;
        }

        /** Lets minutes pass and returns the number of hairs that were brought. */
        int pass(int minutes) {
            int before = brought;
            for (int passed = 0; passed < minutes; passed++) {
                minute++;
                for (int i = 0; i < count; i++) {
                    instruments[i].age(minute, surrounding(instruments[i]));
                }
                if (minute % MINUTES_PER_BRINGING == 0) {
                    bringHairs();
                }
            }
            return brought - before;
        }

        void bringHairs() {
            int hairs = Math.min(skill, MAX_STOCK - stock);
            stock += hairs;
            brought += hairs;
        }

        int surrounding(Instrument x) {
            return fixedPointOr(x.box, humidity);
        }

        int depression(Instrument x) {
            return x.water == 0 ? 0 : (100 - surrounding(x)) * (temperature + 10) / 100;
        }

        int raw(Instrument x) {
            if (x.hair) {
                return x.wetness - x.slack / SLACK_PER_PART;
            }
            return 100 - quotient(depression(x) * 100, temperature + 10);
        }

        int reading(Instrument x) {
            return Math.max(0, Math.min(100, raw(x) + x.zero));
        }

        boolean settled(Instrument x) {
            return x.hair ? x.wetness == surrounding(x) : x.water > 0;
        }

        /** Tells whether a hair hygrometer is settled, or a wet bulb has no water. */
        boolean still(Instrument x) {
            return x.hair ? settled(x) : !settled(x);
        }

        int obstacle(Instrument x) {
            if (!x.isBoxed()) {
                return 1;
            }
            return settled(x) ? 0 : 2;
        }

        int countUsable() {
            int usable = 0;
            for (int i = 0; i < count; i++) {
                if (instruments[i].flaw() == 0) {
                    usable++;
                }
            }
            return usable;
        }

        int blended() {
            int sum = 0;
            int weights = 0;
            for (int i = 0; i < count; i++) {
                int weight = instruments[i].weight();
                sum += reading(instruments[i]) * weight;
                weights += weight;
            }
            return weights == 0 ? NONE : quotient(sum, weights);
        }

        int nearest() {
            int found = NONE;
            int least = 0;
            for (int i = 0; i < count; i++) {
                int distance = Math.abs(reading(instruments[i]) - humidity);
                if (instruments[i].flaw() == 0 && (found == NONE || distance < least)) {
                    found = i;
                    least = distance;
                }
            }
            return found;
        }

        int slackest() {
            int found = NONE;
            int most = 0;
            for (int i = 0; i < count; i++) {
                Instrument x = instruments[i];
                if (x.hair && (found == NONE || x.slack > most)) {
                    found = i;
                    most = x.slack;
                }
            }
            return found;
        }

        int countDisagreeing() {
            int disagreeing = 0;
            for (int i = 0; i < count; i++) {
                Instrument x = instruments[i];
                if (x.isBoxed() && settled(x) && reading(x) != surrounding(x)) {
                    disagreeing++;
                }
            }
            return disagreeing;
        }

        int readingSpan() {
            int least = MAX_HUMIDITY;
            int most = 0;
            for (int i = 0; i < count; i++) {
                if (instruments[i].flaw() == 0) {
                    least = Math.min(least, reading(instruments[i]));
                    most = Math.max(most, reading(instruments[i]));
                }
            }
            return Math.max(0, most - least);
        }

        int sumOfReadings() {
            int sum = 0;
            for (int i = 0; i < count; i++) {
                sum += reading(instruments[i]);
            }
            return sum;
        }

        int hairsHere() {
            int hairs = stock;
            for (int i = 0; i < count; i++) {
                hairs += instruments[i].hairs + instruments[i].broken;
            }
            return hairs;
        }

        int hairsThatCame() {
            int hairs = brought;
            for (int i = 0; i < count; i++) {
                hairs += instruments[i].hairsAtFirst;
            }
            return hairs;
        }
    }

    /** The states before the last changes, in a ring that overwrites the oldest one. */
    private static final class History {
        final Room[] past = new Room[HISTORY_SIZE];
        int next;
        int kept;

        History() {
            for (int i = 0; i < past.length; i++) {
                past[i] = new Room();
            }
        }

        void forget() {
            next = 0;
            kept = 0;
        }

        void record(Room room) {
            past[next].copyFrom(room);
            next = next + 1 < past.length ? next + 1 : 0;
            kept = Math.min(past.length, kept + 1);
        }

        void takeBack(Room room) {
            next = next > 0 ? next - 1 : past.length - 1;
            kept--;
            room.copyFrom(past[next]);
        }
    }

    /** The saved states. */
    private static final class Slots {
        final Room[] rooms = new Room[SLOTS];
        final boolean[] used = new boolean[SLOTS];

        Slots() {
            for (int i = 0; i < rooms.length; i++) {
                rooms[i] = new Room();
            }
        }

        void forget() {
            for (int i = 0; i < used.length; i++) {
                used[i] = false;
            }
        }

        /** Returns null if nothing is saved in the slot. */
        Room find(int slot) {
            return isSlot(slot) && used[slot] ? rooms[slot] : null;
        }

        void keep(int slot, Room room) {
            if (isSlot(slot)) {
                rooms[slot].copyFrom(room);
                used[slot] = true;
            }
        }
    }

    /** The output buffer. */
    private static final class Output {
        final byte[] bytes = new byte[OUTPUT_SIZE];
        int length;

        void sign(int sign) {
            if (length < bytes.length) {
                bytes[length] = (byte) sign;
                length++;
            }
        }

        /** Writes a number from 0 to 999. */
        void number(int value) {
            if (value >= 100) {
                sign('0' + value / 100);
            }
            if (value >= 10) {
                sign('0' + value / 10 % 10);
            }
            sign('0' + value % 10);
        }
    }

    /** The input buffer, and the token of it that the parser looks at. */
    private static final class Tokens {
        final byte[] bytes = new byte[INPUT_SIZE];
        int filled;
        int length;
        int start;
        int end;
        int kind;

        /** Appends four bytes, the most significant one first. */
        void put(int word) {
            for (int shift = 24; shift >= 0 && filled < bytes.length; shift -= 8) {
                bytes[filled] = (byte) (word >> shift);
                filled++;
            }
        }

        void begin(int newLength) {
            length = Math.min(newLength, filled);
            start = 0;
            end = 0;
            kind = END;
        }

        /** Goes to the next token; one that no place in a text allows is BAD. */
        void next() {
            int endBefore = end;
            boolean runBefore = isRun();
            while (end < length && kindOf(bytes[end]) == BLANK) {
                end++;
            }
            start = end;
            kind = start < length ? kindOf(bytes[start]) : END;
            if (kind != END) {
                end++;
            }
            while (isRun() && end < length && kindOf(bytes[end]) == kind) {
                end++;
            }
            boolean joined = isRun() && runBefore && start == endBefore;
            if (joined || kind == NUMBER && end - start > MAX_DIGITS) {
                kind = BAD;
            }
        }

        boolean isRun() {
            return kind == WORD || kind == NUMBER;
        }

        static int kindOf(byte sign) {
            if (sign >= 'a' && sign <= 'z') {
                return WORD;
            }
            if (sign >= '0' && sign <= '9') {
                return NUMBER;
            }
            if (sign == ';') {
                return SEMICOLON;
            }
            return sign == ' ' || sign == '\n' ? BLANK : BAD;
        }

        boolean isWord(String word) {
            if (kind != WORD || end - start != word.length()) {
                return false;
            }
            for (int i = 0; i < word.length(); i++) {
                if (bytes[start + i] != word.charAt(i)) {
                    return false;
                }
            }
            return true;
        }

        /** Returns the value of a number of at most three digits. */
        int value() {
            int value = 0;
            for (int i = start; i < end; i++) {
                value = value * 10 + (bytes[i] - '0');
            }
            return value;
        }
    }

    /** Parses a description into a draft, line by line, up to its first error. */
    private static final class Reader {
        final Tokens tokens = new Tokens();
        final Room draft = new Room();
        int errorKind;
        int errorOffset = NONE;

        /** Parses the first bytes of the input buffer and empties it. */
        void parse(int length) {
            errorKind = 0;
            errorOffset = NONE;
            tokens.begin(length);
            readHead();
            // A line takes more than a byte, so there are fewer lines than bytes.
            for (int lines = 0; lines <= length && errorKind == 0; lines++) {
                tokens.next();
                if (tokens.kind == END) {
                    break;
                }
                if (tokens.kind == SEMICOLON) {
                    readLine();
                } else {
                    fail(SYNTAX);
                }
            }
            tokens.filled = 0;
        }

        void readHead() {
            tokens.next();
            if (!tokens.isWord("room")) {
                fail(SYNTAX);
            }
            int humidity = takeNumber(0, MAX_HUMIDITY);
            int temperature = takeNumber(0, MAX_TEMPERATURE);
            int skill = takeNumber(0, MAX_SKILL);
            if (errorKind == 0) {
                draft.begin(humidity, temperature, skill);
            }
        }

        void readLine() {
            tokens.next();
            if (tokens.isWord("hair")) {
                readHair();
            } else if (tokens.isWord("bulb")) {
                readBulb();
            } else if (tokens.isWord("box")) {
                readBox(takeInstrument());
            } else if (tokens.isWord("out")) {
                readOut(takeInstrument());
            } else if (tokens.isWord("tighten")) {
                readTighten(takeInstrument());
            } else if (tokens.isWord("moisten")) {
                readMoisten(takeInstrument());
            } else if (tokens.isWord("humidity")) {
                readHumidity();
            } else if (tokens.isWord("minutes")) {
                readMinutes();
            } else {
                fail(SYNTAX);
            }
        }

        void readHair() {
            if (draft.count == MAX_INSTRUMENTS) {
                fail(TOO_MANY);
            }
            int hairs = takeNumber(1, MAX_HAIRS);
            if (errorKind == 0) {
                draft.newHair(hairs);
            }
        }

        void readBulb() {
            if (draft.count == MAX_INSTRUMENTS) {
                fail(TOO_MANY);
            }
            int water = takeNumber(0, MAX_WATER);
            if (errorKind == 0) {
                draft.newBulb(water);
            }
        }

        void readBox(Instrument x) {
            if (x == null) {
                return;
            }
            if (x.isBoxed()) {
                fail(REFUSED);
            }
            int salt = takeNumber(0, FIXED_POINTS.length - 1);
            if (errorKind == 0) {
                x.box = salt;
            }
        }

        void readOut(Instrument x) {
            if (x == null) {
                return;
            }
            if (x.isBoxed()) {
                x.box = NONE;
            } else {
                fail(REFUSED);
            }
        }

        void readTighten(Instrument x) {
            if (x == null) {
                return;
            }
            if (!x.hair) {
                fail(WRONG_KIND);
            } else if (x.hairs == 0) {
                fail(REFUSED);
            } else {
                x.tightenSpring();
            }
        }

        void readMoisten(Instrument x) {
            if (x == null) {
                return;
            }
            if (x.hair) {
                fail(WRONG_KIND);
            } else {
                x.water = MAX_WATER;
            }
        }

        void readHumidity() {
            int humidity = takeNumber(0, MAX_HUMIDITY);
            if (errorKind == 0) {
                draft.humidity = humidity;
            }
        }

        void readMinutes() {
            int minutes = takeNumber(1, Math.min(MAX_ADVANCE, MAX_MINUTE - draft.minute));
            if (errorKind == 0) {
                draft.pass(minutes);
            }
        }

        /** Returns null, and reports the error, if no number of an instrument follows. */
        Instrument takeInstrument() {
            return draft.find(takeNumber(0, draft.count - 1));
        }

        /** Reads nothing behind an error, which so stays the one with the smallest offset. */
        int takeNumber(int least, int most) {
            if (errorKind != 0) {
                return NONE;
            }
            tokens.next();
            if (tokens.kind != NUMBER) {
                fail(SYNTAX);
                return NONE;
            }
            int value = tokens.value();
            if (value < least || value > most) {
                fail(OUT_OF_RANGE);
                return NONE;
            }
            return value;
        }

        void fail(int kind) {
            errorKind = kind;
            errorOffset = tokens.start;
        }
    }
}
