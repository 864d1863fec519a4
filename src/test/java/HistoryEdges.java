import java.util.Set;
import java.util.TreeSet;
import java.util.function.Consumer;
import java.util.regex.Matcher;
import java.util.regex.Pattern;

/** Boundary cases of "History". */
final class HistoryEdges {
    private static final Class<IndexOutOfBoundsException> NO_INDEX = IndexOutOfBoundsException.class;
    private static final Class<IllegalArgumentException> NO_ARGUMENT = IllegalArgumentException.class;
    private static final Class<IllegalStateException> NO_STATE = IllegalStateException.class;
    private static final String CHANGES = "Ahead of the calls `advance`, `setHumidity`, `setTemperature`, `setSkill`,"
            + " `putInBox`, `takeOut`, `calibrate`, `tighten`, `moisten`, `addHairs`, `restore` the interface says:"
            + " ---- changes.";
    private static final String[] OTHERS = {
        "Ahead of the calls `append`, `load`, `errorKind`, `errorOffset` the interface says: ---- input.",
        "Ahead of the calls `minute`, `humidity`, `temperature`, `skill`, `hairStock`, `fixedPoint` the interface"
                + " says: ---- room.",
        "Ahead of the calls `instrumentCount`, `isHair`, `hairsOf`, `brokenOf`, `wetnessOf`, `slackOf`, `waterOf`,"
                + " `depressionOf`, `zeroOf`, `boxOf`, `surroundingOf`, `rawValue`, `readingOf`, `errorOf`,"
                + " `isSettled`, `whyUnusable`, `weightOf`, `calibrationObstacle` the interface says:"
                + " ---- instruments.",
        "Ahead of the calls `usableInstruments`, `blend`, `bestInstrument`, `slackestInstrument`, `disagreements`,"
                + " `spread` the interface says: ---- comparisons.",
        "Ahead of the calls `readingAfter`, `minutesUntilStill` the interface says: ---- forecasts: what would"
                + " happen if only minutes passed; nothing changes.",
        "Ahead of the calls `hairDifference`, `meanReading`, `usableShare` the interface says: ---- measures.",
        "Ahead of the calls `undo`, `save` the interface says: ---- undo and saved states.",
        "Ahead of the calls `writeInstrument`, `writeReadings`, `outputByte` the interface says: ---- output.",
    };

    private HistoryEdges() {
    }

    static void run() {
        Sentences.in("History");
        Sentences.hold("The methods in the section \"changes\" record a change whenever they return normally, even if"
                + " they alter nothing.", HistoryEdges::idleChanges);
        Sentences.hold("The last 10 recorded changes can be undone.", HistoryEdges::lastTen);
        Sentences.hold("Undoing a change restores the state before it, except for the input buffer, the output buffer,"
                + " the reported error and the saved states.", HistoryEdges::undoneParts);
        Sentences.hold("A method that throws an exception alters nothing, unless its description says otherwise.",
                HistoryEdges::refusedCalls);
        Sentences.hold("If several exceptions apply to one call, the method throws the one that is listed first.",
                HistoryEdges::firstException);
        Sentences.hold("A new simulator is in the state that the text \"room 60 20 2; hair 10; hair 4; bulb 30; bulb"
                + " 3; humidity 50; minutes 3; box 1 2; minutes 2\" describes, and its buffers are empty.",
                HistoryEdges::newSimulator);
        Sentences.hold("The constants: `NONE = -1`: The result of a search that finds nothing.",
                HistoryEdges::nothingFound);
        sections();
    }

    /** Of the calls that return normally, those of the section "changes" record, and no others. */
    private static void sections() {
        Set<String> met = new TreeSet<>();
        Sentences.hold(CHANGES, () -> {
            for (String name : namesIn(CHANGES, met)) {
                HygrometerRoom room = Calls.room();
                Calls.make(room, name);
                Check.same("undo after " + name, room.undo(), 1);
            }
        });
        for (String sentence : OTHERS) {
            Sentences.hold(sentence, () -> {
                for (String name : namesIn(sentence, met)) {
                    HygrometerRoom room = Calls.room();
                    Calls.make(room, name);
                    boolean discards = name.equals("load") || name.equals("undo");
                    String due = discards ? "IllegalStateException" : "0";
                    Check.same("undo after " + name, Rooms.answer(room::undo), due);
                }
            });
        }
        Check.same("the calls of all sections", met, Calls.names());
    }

    private static Set<String> namesIn(String sentence, Set<String> met) {
        Set<String> names = new TreeSet<>();
        Matcher name = Pattern.compile("`(\\w+)`").matcher(sentence);
        while (name.find()) {
            names.add(name.group(1));
        }
        met.addAll(names);
        return names;
    }

    private static void records(String what, HygrometerRoom room, Consumer<HygrometerRoom> call) {
        String before = Rooms.state(room);
        call.accept(room);
        Check.same(what + " alters nothing", Rooms.state(room), before);
        Check.same(what + " is recorded", room.undo(), 0);
        Check.same(what + " undone", Rooms.state(room), before);
        Check.refuses(what + " alone", NO_STATE, room, room::undo);
    }

    private static void idleChanges() {
        String text = "room 20 20 0;hair 1;bulb 0;bulb 60;moisten 1;box 0 0;out 0;box 2 2";
        records("the same humidity", Rooms.of(text), room -> room.setHumidity(20));
        records("the same temperature", Rooms.of(text), room -> room.setTemperature(20));
        records("the same skill", Rooms.of(text), room -> room.setSkill(0));
        records("a tight spring", Rooms.of(text), room -> room.tighten(0));
        records("a wet bulb full of water", Rooms.of(text), room -> room.moisten(1));
        HygrometerRoom exact = Rooms.of("room 75 0 0;hair 1;box 0 2");
        records("the same zero", exact, room -> room.calibrate(0));
        HygrometerRoom saved = Rooms.of(text);
        saved.save(1);
        records("the same state", saved, room -> room.restore(1));
        HygrometerRoom refused = Rooms.of(text);
        Check.fails("a change that throws", NO_ARGUMENT, () -> refused.setHumidity(101));
        Check.refuses("a change that throws is not recorded", NO_STATE, refused, refused::undo);
    }

    private static void lastTen() {
        for (int changes : new int[] {0, 1, 9, 10, 11, 12, 19, 20, 21, 30, 99}) {
            HygrometerRoom room = Rooms.of("room 0 0 0");
            for (int humidity = 1; humidity <= changes; humidity++) {
                room.setHumidity(humidity);
            }
            int kept = Math.min(10, changes);
            for (int undone = 1; undone <= kept; undone++) {
                Check.same(changes + " changes, undo " + undone, room.undo(), kept - undone);
                Check.same(changes + " changes, humidity after undo " + undone, room.humidity(), changes - undone);
            }
            Check.refuses(changes + " changes, no more", NO_STATE, room, room::undo);
            Check.same(changes + " changes, humidity at last", room.humidity(), changes - kept);
        }
    }

    private static void undoneParts() {
        for (String name : new String[] {"advance", "setHumidity", "setTemperature", "setSkill", "putInBox", "takeOut",
            "calibrate", "tighten", "moisten", "addHairs", "restore"}) {
            HygrometerRoom room = Calls.room();
            String before = Rooms.state(room);
            Calls.make(room, name);
            Check.same(name + " alters", Rooms.state(room).equals(before), false);
            room.undo();
            Check.same(name + " undone", Rooms.state(room), before);
        }
        inputStays();
        outputStays();
        errorStays();
        savedStatesStay();
    }

    private static void inputStays() {
        HygrometerRoom room = new HygrometerRoom();
        room.setHumidity(1);
        Rooms.append(room, "room 7 7 5");
        room.undo();
        Check.same("the input is longer", room.append(0, 0, 0, 0, 0), 40);
        Check.same("its text", room.load(10), 0);
        Check.same("its humidity", room.humidity(), 7);
        room.setHumidity(2);
        Check.fails("an empty text", NO_ARGUMENT, () -> room.load(0));
        room.undo();
        Check.same("the input stays empty", Rooms.answer(() -> room.load(1)), "IndexOutOfBoundsException");
    }

    private static void outputStays() {
        HygrometerRoom room = new HygrometerRoom();
        room.setHumidity(1);
        room.writeInstrument(1);
        room.undo();
        Check.same("the output stays", Rooms.output(room), "h62s2");
        room.setHumidity(2);
        Rooms.load(room, "room 0 0 0");
        room.setHumidity(3);
        room.writeReadings();
        room.undo();
        Check.same("the output stays empty", Rooms.output(room), "");
    }

    private static void errorStays() {
        HygrometerRoom room = new HygrometerRoom();
        room.setHumidity(1);
        Rooms.append(room, "room 1 2 6");
        Check.fails("an error", NO_ARGUMENT, () -> room.load(10));
        room.undo();
        Check.same("the kind stays", room.errorKind(), 2);
        Check.same("the offset stays", room.errorOffset(), 9);
    }

    private static void savedStatesStay() {
        HygrometerRoom room = new HygrometerRoom();
        room.setHumidity(1);
        room.save(0);
        room.undo();
        Check.same("what was saved after the change", room.restore(0), 5);
        Check.same("its humidity", room.humidity(), 1);
        room.setHumidity(9);
        room.save(0);
        room.undo();
        room.restore(0);
        Check.same("what replaced it", room.humidity(), 9);
    }

    /** One refused call of each method that throws, on a room that has something in each part. */
    private static void refusedCalls() {
        Set<String> free = Set.of("errorKind", "errorOffset", "minute", "humidity", "temperature", "skill",
                "hairStock", "instrumentCount", "usableInstruments", "blend", "bestInstrument",
                "slackestInstrument", "disagreements", "spread", "hairDifference", "meanReading", "usableShare",
                "undo", "append", "load", "writeReadings");
        Set<String> arguments = Set.of("fixedPoint", "advance", "setHumidity", "setTemperature", "setSkill");
        for (String name : Calls.names()) {
            if (!free.contains(name)) {
                int[] wrong = new int[name.matches("readingAfter|putInBox|addHairs") ? 2 : 1];
                wrong[0] = -1;
                Class<? extends RuntimeException> due = arguments.contains(name) ? NO_ARGUMENT : NO_INDEX;
                Check.refused(name, due, Rooms::busy, room -> Calls.make(room, name, wrong));
            }
        }
        Check.refused("undo", NO_STATE, HygrometerRoom::new, HygrometerRoom::undo);
        Check.refused("append", NO_STATE, HistoryEdges::fullOfInput, room -> room.append(1, 2, 3, 4, 5));
        Check.refused("load", NO_INDEX, Rooms::busy, room -> room.load(41));
        Check.refused("outputByte", NO_INDEX, Rooms::busy, room -> room.outputByte(600));
    }

    private static HygrometerRoom fullOfInput() {
        HygrometerRoom room = new HygrometerRoom();
        Rooms.append(room, "room 1 2 3;bulb 4" + " ".repeat(583));
        return room;
    }

    private static void firstException() {
        Check.refused("load: no such length, no text", NO_INDEX, Rooms::busy, room -> room.load(-1));
        Check.refused("readingAfter: no instrument, no minutes", NO_INDEX, Rooms::busy,
                room -> room.readingAfter(2, -1));
        Check.refused("putInBox: no instrument, no salt", NO_INDEX, Rooms::busy, room -> room.putInBox(2, 4));
        Check.refused("putInBox: no salt, in a box", NO_ARGUMENT, Rooms::busy, room -> room.putInBox(1, 4));
        Check.refused("addHairs: no instrument, no hairs", NO_INDEX, Rooms::busy, room -> room.addHairs(2, 0));
        Check.refused("addHairs: no hairs, a wet bulb", NO_ARGUMENT, Rooms::busy, room -> room.addHairs(1, 0));
        Check.refused("addHairs: 21, more than the stock", NO_ARGUMENT, Rooms::busy, room -> room.addHairs(0, 21));
        Check.refused("restore: no slot, nothing saved", NO_INDEX, HygrometerRoom::new, room -> room.restore(2));
        HygrometerRoom late = Rooms.of("room 0 0 0");
        Rooms.pass(late, 9999);
        Check.refuses("advance: no minutes, too late", NO_ARGUMENT, late, () -> late.advance(100));
    }

    private static void newSimulator() {
        HygrometerRoom room = new HygrometerRoom();
        Check.same("the state", Rooms.state(room), Rooms.state(Rooms.of(Rooms.FIRST_TEXT)));
        Check.same("no output", room.writeReadings() > 0 && Rooms.output(new HygrometerRoom()).isEmpty(), true);
        Check.refused("no byte of output", NO_INDEX, HygrometerRoom::new, x -> x.outputByte(0));
        Check.same("no input", room.append(0, 0, 0, 0, 0), 20);
        Check.refused("no byte of input", NO_INDEX, HygrometerRoom::new, x -> x.load(1));
        Check.refused("no change", NO_STATE, HygrometerRoom::new, HygrometerRoom::undo);
        Check.refused("nothing in slot 0", NO_STATE, HygrometerRoom::new, x -> x.restore(0));
        Check.refused("nothing in slot 1", NO_STATE, HygrometerRoom::new, x -> x.restore(1));
    }

    private static void nothingFound() {
        Check.same("NONE", HygrometerRoom.NONE, -1);
        HygrometerRoom none = Rooms.of("room 0 0 0");
        Check.same("no best", none.bestInstrument(), HygrometerRoom.NONE);
        Check.same("no slackest", none.slackestInstrument(), HygrometerRoom.NONE);
        Check.same("no blend", none.blend(), HygrometerRoom.NONE);
        Check.same("no error", none.errorOffset(), HygrometerRoom.NONE);
    }
}
