import java.io.ByteArrayOutputStream;
import java.nio.charset.StandardCharsets;
import java.util.ArrayDeque;
import java.util.ArrayList;
import java.util.Arrays;
import java.util.Deque;
import java.util.List;
import java.util.TreeMap;
import java.util.regex.Matcher;
import java.util.regex.Pattern;

/**
 * The document read a second time, in other ways than the class: states that are copied whole,
 * descriptions that are cut into tokens first. It has the names of the face, for ModelTest.
 */
public final class Model {
    private static final int[] SALTS = {33, 43, 75, 97};
    private static final String FIRST_TEXT =
            "room 60 20 2; hair 10; hair 4; bulb 30; bulb 3; humidity 50; minutes 3; box 1 2; minutes 2";

    private State now = parse(FIRST_TEXT);
    private final Deque<State> changes = new ArrayDeque<>();
    private final TreeMap<Integer, State> saved = new TreeMap<>();
    private ByteArrayOutputStream input = new ByteArrayOutputStream();
    private String output = "";
    private int kind = 0;
    private int offset = -1;

    private static final class Thing implements Cloneable {
        boolean hair;
        int hairs;
        int broken;
        int wetness;
        int slack;
        int water;
        int zero;
        Integer salt;

        Thing copy() {
            try {
                return (Thing) clone();
            } catch (CloneNotSupportedException e) {
                throw new AssertionError(e);
            }
        }
    }

    private static final class State {
        int minute;
        int humidity;
        int temperature;
        int skill;
        int stock;
        List<Thing> things = new ArrayList<>();

        State copy() {
            State copy = new State();
            copy.minute = minute;
            copy.humidity = humidity;
            copy.temperature = temperature;
            copy.skill = skill;
            copy.stock = stock;
            for (Thing thing : things) {
                copy.things.add(thing.copy());
            }
            return copy;
        }

        int around(Thing thing) {
            return thing.salt == null ? humidity : SALTS[thing.salt];
        }

        int tick() {
            minute += 1;
            for (Thing thing : things) {
                int target = around(thing);
                if (thing.hair && thing.hairs > 0) {
                    int step = 1 + 20 / thing.hairs;
                    int way = target - thing.wetness;
                    thing.wetness += Math.abs(way) <= step ? way : Integer.signum(way) * step;
                }
                if (!thing.hair && thing.water > 0) {
                    thing.water -= 1;
                }
            }
            for (Thing thing : things) {
                if (minute % 10 == 0 && thing.hair && thing.slack < 50) {
                    thing.slack += 1;
                }
            }
            int before = stock;
            if (minute % 60 == 0) {
                stock = stock + skill > 99 ? 99 : stock + skill;
            }
            return stock - before;
        }

        void tighten(Thing thing) {
            thing.slack = 0;
            if (thing.wetness < 20) {
                thing.hairs -= 1;
                thing.broken += 1;
            }
        }

        int depression(Thing thing) {
            return thing.water == 0 ? 0 : (100 - around(thing)) * (temperature + 10) / 100;
        }

        int raw(Thing thing) {
            return thing.hair ? thing.wetness - thing.slack / 5
                    : 100 - depression(thing) * 100 / (temperature + 10);
        }

        int reading(Thing thing) {
            int value = raw(thing) + thing.zero;
            return value < 0 ? 0 : value > 100 ? 100 : value;
        }

        boolean settled(Thing thing) {
            return thing.hair && thing.wetness == around(thing) || !thing.hair && thing.water > 0;
        }

        int reason(Thing thing) {
            if (thing.salt != null) {
                return 1;
            } else if (thing.hair && thing.hairs == 0 || !thing.hair && thing.water == 0) {
                return 2;
            } else if (thing.hair && thing.slack > 25) {
                return 3;
            }
            return 0;
        }

        int weight(Thing thing) {
            return reason(thing) != 0 ? 0 : thing.hair ? thing.hairs : 5;
        }
    }

    /** An error of a text. */
    private static final class Fault extends RuntimeException {
        private static final long serialVersionUID = 1;
        final int kind;
        final int offset;

        Fault(int kind, int offset) {
            this.kind = kind;
            this.offset = offset;
        }
    }

    private record Token(String text, int offset, boolean joined) {
        boolean isNumber() {
            return text.matches("[0-9]{1,3}") && !joined;
        }
    }

    private static State parse(String text) {
        List<Token> tokens = new ArrayList<>();
        Matcher matcher = Pattern.compile("[a-z]+|[0-9]+|;|[ \n]+|(?s:.)").matcher(text);
        String before = " ";
        while (matcher.find()) {
            String token = matcher.group();
            boolean joined = before.matches("[a-z]+|[0-9]+") && token.matches("[a-z]+|[0-9]+");
            if (!token.matches("[ \n]+")) {
                tokens.add(new Token(token, matcher.start(), joined));
            }
            before = token;
        }
        tokens.add(new Token("", text.length(), false));
        return new Lines(tokens).all();
    }

    private static final class Lines {
        private final List<Token> tokens;
        private final State state = new State();
        private int at = 0;

        Lines(List<Token> tokens) {
            this.tokens = tokens;
        }

        State all() {
            word("room");
            state.humidity = number(0, 100);
            state.temperature = number(0, 40);
            state.skill = number(0, 5);
            while (!tokens.get(at).text().isEmpty()) {
                word(";");
                line();
            }
            return state;
        }

        private void word(String due) {
            Token token = tokens.get(at++);
            if (!token.text().equals(due) || token.joined()) {
                throw new Fault(1, token.offset());
            }
        }

        private int number(int least, int most) {
            Token token = tokens.get(at++);
            if (!token.isNumber()) {
                throw new Fault(1, token.offset());
            }
            int value = Integer.parseInt(token.text());
            if (value < least || value > most) {
                throw new Fault(2, token.offset());
            }
            return value;
        }

        private void refuse(int kind, boolean really) {
            if (really) {
                throw new Fault(kind, tokens.get(at - 1).offset());
            }
        }

        private void line() {
            String word = tokens.get(at++).text();
            switch (word) {
                case "hair", "bulb" -> add(word.equals("hair"));
                case "box", "out", "tighten", "moisten" -> tell(word);
                case "humidity" -> state.humidity = number(0, 100);
                case "minutes" -> {
                    int minutes = number(1, 99);
                    refuse(2, state.minute + minutes > 9999);
                    for (int i = 0; i < minutes; i++) {
                        state.tick();
                    }
                }
                default -> refuse(1, true);
            }
        }

        private void add(boolean hair) {
            refuse(4, state.things.size() >= 6);
            Thing thing = new Thing();
            thing.hair = hair;
            if (hair) {
                thing.hairs = number(1, 20);
                thing.wetness = state.humidity;
            } else {
                thing.water = number(0, 60);
            }
            state.things.add(thing);
        }

        private void tell(String word) {
            Thing thing = state.things.isEmpty() ? null : state.things.get(number(0, state.things.size() - 1));
            if (thing == null) {
                number(1, 0);
            } else if (word.equals("box")) {
                refuse(5, thing.salt != null);
                thing.salt = number(0, 3);
            } else if (word.equals("out")) {
                refuse(5, thing.salt == null);
                thing.salt = null;
            } else if (word.equals("tighten")) {
                refuse(3, !thing.hair);
                refuse(5, thing.hairs == 0);
                state.tighten(thing);
            } else {
                refuse(3, thing.hair);
                thing.water = 60;
            }
        }
    }

    private Thing thing(int instrument) {
        return now.things.get(instrument);
    }

    private void argument(boolean good) {
        if (!good) {
            throw new IllegalArgumentException();
        }
    }

    private void state(boolean good) {
        if (!good) {
            throw new IllegalStateException();
        }
    }

    private void index(boolean good) {
        if (!good) {
            throw new IndexOutOfBoundsException();
        }
    }

    private void change() {
        changes.addLast(now.copy());
        if (changes.size() > 10) {
            changes.removeFirst();
        }
    }

    public int append(int a, int b, int c, int d, int e) {
        state(input.size() + 20 <= 600);
        for (int word : new int[] {a, b, c, d, e}) {
            input.write(word >>> 24 & 255);
            input.write(word >>> 16 & 255);
            input.write(word >>> 8 & 255);
            input.write(word & 255);
        }
        return input.size();
    }

    public int load(int length) {
        index(length >= 0 && length <= input.size());
        String text = new String(Arrays.copyOf(input.toByteArray(), length), StandardCharsets.ISO_8859_1);
        input.reset();
        kind = 0;
        offset = -1;
        try {
            now = parse(text);
        } catch (Fault fault) {
            kind = fault.kind;
            offset = fault.offset;
        }
        argument(kind == 0);
        changes.clear();
        saved.clear();
        return now.things.size();
    }

    public int errorKind() {
        return kind;
    }

    public int errorOffset() {
        return offset;
    }

    public int minute() {
        return now.minute;
    }

    public int humidity() {
        return now.humidity;
    }

    public int temperature() {
        return now.temperature;
    }

    public int skill() {
        return now.skill;
    }

    public int hairStock() {
        return now.stock;
    }

    public int fixedPoint(int salt) {
        argument(salt >= 0 && salt <= 3);
        return SALTS[salt];
    }

    public int instrumentCount() {
        return now.things.size();
    }

    public boolean isHair(int instrument) {
        return thing(instrument).hair;
    }

    public int hairsOf(int instrument) {
        return thing(instrument).hair ? thing(instrument).hairs : -1;
    }

    public int brokenOf(int instrument) {
        return thing(instrument).hair ? thing(instrument).broken : -1;
    }

    public int wetnessOf(int instrument) {
        return thing(instrument).hair ? thing(instrument).wetness : -1;
    }

    public int slackOf(int instrument) {
        return thing(instrument).hair ? thing(instrument).slack : -1;
    }

    public int waterOf(int instrument) {
        return thing(instrument).hair ? -1 : thing(instrument).water;
    }

    public int depressionOf(int instrument) {
        return thing(instrument).hair ? -1 : now.depression(thing(instrument));
    }

    public int zeroOf(int instrument) {
        return thing(instrument).zero;
    }

    public int boxOf(int instrument) {
        return thing(instrument).salt == null ? -1 : thing(instrument).salt;
    }

    public int surroundingOf(int instrument) {
        return now.around(thing(instrument));
    }

    public int rawValue(int instrument) {
        return now.raw(thing(instrument));
    }

    public int readingOf(int instrument) {
        return now.reading(thing(instrument));
    }

    public int errorOf(int instrument) {
        return readingOf(instrument) - surroundingOf(instrument);
    }

    public boolean isSettled(int instrument) {
        return now.settled(thing(instrument));
    }

    public int whyUnusable(int instrument) {
        return now.reason(thing(instrument));
    }

    public int weightOf(int instrument) {
        return now.weight(thing(instrument));
    }

    public int calibrationObstacle(int instrument) {
        return thing(instrument).salt == null ? 1 : now.settled(thing(instrument)) ? 0 : 2;
    }

    private List<Integer> usable() {
        List<Integer> usable = new ArrayList<>();
        for (int i = 0; i < now.things.size(); i++) {
            if (whyUnusable(i) == 0) {
                usable.add(i);
            }
        }
        return usable;
    }

    public int usableInstruments() {
        return usable().size();
    }

    public int blend() {
        int sum = usable().stream().mapToInt(i -> readingOf(i) * weightOf(i)).sum();
        int weights = usable().stream().mapToInt(this::weightOf).sum();
        return usable().isEmpty() ? -1 : sum / weights;
    }

    public int bestInstrument() {
        int best = -1;
        for (int distance = 100; distance >= 0; distance--) {
            for (int i = now.things.size() - 1; i >= 0; i--) {
                if (whyUnusable(i) == 0 && Math.abs(readingOf(i) - now.humidity) == distance) {
                    best = i;
                }
            }
        }
        return best;
    }

    public int slackestInstrument() {
        int slackest = -1;
        for (int slack = 0; slack <= 50; slack++) {
            for (int i = now.things.size() - 1; i >= 0; i--) {
                slackest = slackOf(i) == slack ? i : slackest;
            }
        }
        return slackest;
    }

    public int disagreements() {
        return (int) now.things.stream()
                .filter(x -> x.salt != null && now.settled(x) && now.reading(x) != SALTS[x.salt]).count();
    }

    public int spread() {
        int[] readings = usable().stream().mapToInt(this::readingOf).sorted().toArray();
        return readings.length < 2 ? 0 : readings[readings.length - 1] - readings[0];
    }

    public int readingAfter(int instrument, int minutes) {
        thing(instrument);
        argument(minutes >= 0 && minutes <= 200);
        State later = now.copy();
        for (int i = 0; i < minutes; i++) {
            later.tick();
        }
        return later.reading(later.things.get(instrument));
    }

    public int minutesUntilStill(int instrument) {
        thing(instrument);
        State later = now.copy();
        for (int minutes = 0; minutes <= 200; minutes++) {
            Thing thing = later.things.get(instrument);
            if (thing.hair ? later.settled(thing) : thing.water == 0) {
                return minutes;
            }
            later.tick();
        }
        return -1;
    }

    public int hairDifference() {
        return 0;
    }

    public double meanReading() {
        double sum = now.things.stream().mapToInt(now::reading).sum();
        return now.things.isEmpty() ? 0.0 : sum / now.things.size();
    }

    public float usableShare() {
        return now.things.isEmpty() ? 0.0f : (float) usable().size() / (float) now.things.size();
    }

    public int advance(int minutes) {
        argument(minutes >= 1 && minutes <= 99);
        state(now.minute + minutes <= 9999);
        change();
        int brought = 0;
        for (int i = 0; i < minutes; i++) {
            brought += now.tick();
        }
        return brought;
    }

    public int setHumidity(int humidity) {
        argument(humidity >= 0 && humidity <= 100);
        change();
        int before = now.humidity;
        now.humidity = humidity;
        return before;
    }

    public int setTemperature(int temperature) {
        argument(temperature >= 0 && temperature <= 40);
        change();
        int before = now.temperature;
        now.temperature = temperature;
        return before;
    }

    public int setSkill(int skill) {
        argument(skill >= 0 && skill <= 5);
        change();
        int before = now.skill;
        now.skill = skill;
        return before;
    }

    public int putInBox(int instrument, int salt) {
        thing(instrument);
        argument(salt >= 0 && salt <= 3);
        state(thing(instrument).salt == null);
        change();
        thing(instrument).salt = salt;
        return SALTS[salt];
    }

    public int takeOut(int instrument) {
        state(thing(instrument).salt != null);
        change();
        int salt = thing(instrument).salt;
        thing(instrument).salt = null;
        return salt;
    }

    public int calibrate(int instrument) {
        state(calibrationObstacle(instrument) == 0);
        change();
        int before = zeroOf(instrument);
        thing(instrument).zero = surroundingOf(instrument) - rawValue(instrument);
        return before;
    }

    public int tighten(int instrument) {
        state(thing(instrument).hair && thing(instrument).hairs > 0);
        change();
        int before = thing(instrument).slack;
        now.tighten(thing(instrument));
        return before;
    }

    public int moisten(int instrument) {
        state(!thing(instrument).hair);
        change();
        int before = thing(instrument).water;
        thing(instrument).water = 60;
        return before;
    }

    public int addHairs(int instrument, int hairs) {
        thing(instrument);
        argument(hairs >= 1 && hairs <= 20);
        state(thing(instrument).hair && hairs <= now.stock && thing(instrument).hairs + hairs <= 20);
        change();
        now.stock -= hairs;
        return thing(instrument).hairs += hairs;
    }

    public int restore(int slot) {
        index(slot == 0 || slot == 1);
        state(saved.containsKey(slot));
        change();
        now = saved.get(slot).copy();
        return now.minute;
    }

    public int undo() {
        state(!changes.isEmpty());
        now = changes.removeLast();
        return changes.size();
    }

    public int save(int slot) {
        index(slot == 0 || slot == 1);
        saved.put(slot, now.copy());
        return now.minute;
    }

    public int writeInstrument(int instrument) {
        Thing thing = thing(instrument);
        output = (thing.hair ? "h" : "b") + now.reading(thing) + (now.settled(thing) ? "*" : "")
                + (thing.salt == null ? "" : "s" + thing.salt);
        return output.length();
    }

    public int writeReadings() {
        List<String> readings = new ArrayList<>();
        now.things.forEach(x -> readings.add("" + now.reading(x)));
        output = String.join(" ", readings);
        return output.length();
    }

    public int outputByte(int index) {
        return output.charAt(index);
    }
}
