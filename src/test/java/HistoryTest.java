import java.util.ArrayList;
import java.util.List;
import java.util.function.Consumer;

/** Promises 51 to 53: restore, undo and save. */
public final class HistoryTest {
    private static final Class<IndexOutOfBoundsException> NO_INDEX = IndexOutOfBoundsException.class;
    private static final Class<IllegalStateException> NO_STATE = IllegalStateException.class;

    public static void main(String[] args) {
        everyChangeIsRecorded();
        lastTenOnly();
        undoBetweenChanges();
        undoLeavesBuffers();
        savesAndRestores();
        restoreIsAChange();
        savedStatesOutlastUndo();
        slotsAreApart();
        wrongSlots();
        Check.finish("HistoryTest");
    }

    /** Each kind of change is undone on its own, the first one last. */
    private static void everyChangeIsRecorded() {
        List<Consumer<HygrometerRoom>> changes = new ArrayList<>();
        changes.add(room -> room.advance(99));
        changes.add(room -> room.setHumidity(9));
        changes.add(room -> room.setTemperature(9));
        changes.add(room -> room.setSkill(1));
        changes.add(room -> room.putInBox(1, 3));
        changes.add(room -> room.takeOut(0));
        changes.add(room -> room.moisten(1));
        changes.add(room -> room.calibrate(1));
        changes.add(room -> room.tighten(0));
        changes.add(room -> room.addHairs(0, 2));
        HygrometerRoom room = Rooms.of("room 50 20 2;hair 4;bulb 30;box 0 2;minutes 5");
        List<String> states = new ArrayList<>();
        states.add(Rooms.state(room));
        for (Consumer<HygrometerRoom> change : changes) {
            change.accept(room);
            String before = states.get(states.size() - 1);
            states.add(Rooms.state(room));
            Check.same("52 the change shows", states.get(states.size() - 1).equals(before), false);
        }
        for (int left = 9; left >= 0; left--) {
            Check.same("52 left", room.undo(), left);
            Check.same("52 state before change " + left, Rooms.state(room), states.get(left));
        }
        Check.fails("52 nothing left", NO_STATE, room::undo);
        Check.same("52 state of nothing left", Rooms.state(room), states.get(0));
    }

    private static void lastTenOnly() {
        HygrometerRoom room = new HygrometerRoom();
        for (int humidity = 1; humidity <= 23; humidity++) {
            room.setHumidity(humidity);
        }
        for (int left = 9; left >= 0; left--) {
            Check.same("52 left", room.undo(), left);
            Check.same("7 humidity", room.humidity(), 13 + left);
        }
        Check.refuses("52 the eleventh", NO_STATE, room, room::undo);
        HygrometerRoom idle = new HygrometerRoom();
        idle.setHumidity(50);
        idle.setTemperature(20);
        idle.setSkill(2);
        idle.tighten(0);
        Check.same("52 changes that alter nothing", idle.undo(), 3);
    }

    private static void undoBetweenChanges() {
        HygrometerRoom room = new HygrometerRoom();
        room.setHumidity(1);
        room.setHumidity(2);
        Check.same("52 one left", room.undo(), 1);
        room.setHumidity(3);
        room.setHumidity(4);
        Check.same("52 two left", room.undo(), 2);
        Check.same("7 humidity", room.humidity(), 3);
        Check.same("52 one left", room.undo(), 1);
        Check.same("7 humidity", room.humidity(), 1);
        Check.same("52 none left", room.undo(), 0);
        Check.same("7 humidity", room.humidity(), 50);
        for (int humidity = 0; humidity < 15; humidity++) {
            room.setHumidity(humidity);
        }
        Check.same("52 after undo and 15 more", room.undo(), 9);
        room.setHumidity(77);
        Check.same("52 ten again", room.undo(), 9);
        Check.same("7 humidity", room.humidity(), 13);
    }

    private static void undoLeavesBuffers() {
        HygrometerRoom room = new HygrometerRoom();
        Rooms.append(room, "rum");
        Check.fails("3 an error", IllegalArgumentException.class, () -> room.load(2));
        room.setHumidity(1);
        Rooms.append(room, "room 7 7 5");
        room.writeInstrument(1);
        room.undo();
        Check.same("52 output stays", Rooms.output(room), "h62s2");
        Check.same("52 error stays", room.errorKind(), 1);
        Check.same("52 input stays", room.load(10), 0);
        Check.same("7 humidity", room.humidity(), 7);
    }

    private static void savesAndRestores() {
        HygrometerRoom room = new HygrometerRoom();
        String before = Rooms.picture(room);
        Check.same("53 minute", room.save(1), 5);
        Check.same("53 alters nothing", Rooms.picture(room), before);
        Check.refuses("53 is not a change", NO_STATE, room, room::undo);
        room.advance(60);
        room.tighten(0);
        room.addHairs(0, 2);
        room.putInBox(0, 0);
        room.setTemperature(1);
        room.setSkill(0);
        Check.same("51 minute", room.restore(1), 5);
        Check.same("51 state", Rooms.picture(room), before);
        room.advance(3);
        Check.same("51 the state stays saved", room.restore(1), 5);
        Check.same("51 state again", Rooms.picture(room), before);
    }

    private static void restoreIsAChange() {
        HygrometerRoom room = new HygrometerRoom();
        room.save(0);
        room.advance(9);
        String before = Rooms.state(room);
        room.restore(0);
        room.restore(0);
        Check.same("52 of restore", room.undo(), 2);
        Check.same("6 minute", room.minute(), 5);
        Check.same("52 of restore", room.undo(), 1);
        Check.same("52 state", Rooms.state(room), before);
        Check.refuses("51 the other slot", NO_STATE, room, () -> room.restore(1));
        Check.same("51 records nothing when refused", room.undo(), 0);
    }

    private static void savedStatesOutlastUndo() {
        HygrometerRoom room = new HygrometerRoom();
        room.advance(1);
        Check.same("53 minute", room.save(0), 6);
        room.undo();
        Check.same("51 after undo", room.restore(0), 6);
        Check.same("53 what is now", room.save(1), 6);
        room.undo();
        Check.same("53 replaces", room.save(1), 5);
        Check.same("51 what replaced", room.restore(1), 5);
    }

    private static void slotsAreApart() {
        HygrometerRoom room = new HygrometerRoom();
        room.save(0);
        room.advance(10);
        room.save(1);
        room.advance(10);
        Check.same("51 slot 0", room.restore(0), 5);
        Check.same("51 slot 1", room.restore(1), 15);
        room.setHumidity(0);
        room.advance(10);
        Check.same("51 slot 1 again", room.restore(1), 15);
        Check.same("7 humidity", room.humidity(), 50);
        Check.same("24 of an instrument", room.wetnessOf(0), 50);
    }

    private static void wrongSlots() {
        for (int slot : new int[] {-1, 2, Integer.MIN_VALUE, Integer.MAX_VALUE}) {
            HygrometerRoom room = new HygrometerRoom();
            room.setSkill(5);
            Check.refuses("51 slot " + slot, NO_INDEX, room, () -> room.restore(slot));
            Check.refuses("53 slot " + slot, NO_INDEX, room, () -> room.save(slot));
            Check.same("51 records nothing when refused", room.undo(), 0);
        }
    }
}
