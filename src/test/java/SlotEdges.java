/** Boundary cases of promises 51 to 53. */
final class SlotEdges {
    private static final Class<IndexOutOfBoundsException> NO_INDEX = IndexOutOfBoundsException.class;
    private static final Class<IllegalStateException> NO_STATE = IllegalStateException.class;
    private static final int[] WRONG = {-1, 2, 255, 256, Integer.MIN_VALUE, Integer.MAX_VALUE};

    private SlotEdges() {
    }

    static void run() {
        Sentences.in(51);
        Sentences.hold("Restores a saved state.", SlotEdges::restored);
        Sentences.hold("The state stays saved.", SlotEdges::staysSaved);
        Sentences.hold("`slot`: 0 or 1", SlotEdges::bothRestored);
        Sentences.hold("Returns the minute number of the restored state.", SlotEdges::restoredMinutes);
        Sentences.hold("Throws `IndexOutOfBoundsException` if slot is neither 0 nor 1", SlotEdges::restoredNowhere);
        Sentences.hold("Throws `IllegalStateException` if nothing is saved in the slot", SlotEdges::nothingSaved);
        Sentences.in(52);
        Sentences.hold("Undoes the last recorded change that has not been undone.", SlotEdges::lastChange);
        Sentences.hold("Returns the number of changes that can still be undone.", SlotEdges::stillUndoable);
        Sentences.hold("Throws `IllegalStateException` if there is no change to undo", SlotEdges::nothingToUndo);
        Sentences.in(53);
        Sentences.hold("Saves the state that undo() restores in a slot and replaces what was saved there.",
                SlotEdges::saved);
        Sentences.hold("This is not a change.", SlotEdges::noChange);
        Sentences.hold("`slot`: 0 or 1", SlotEdges::bothSaved);
        Sentences.hold("Returns the minute number of the saved state.", SlotEdges::savedMinutes);
        Sentences.hold("Throws `IndexOutOfBoundsException` if slot is neither 0 nor 1", SlotEdges::savedNowhere);
    }

    /** Alters each number that a state has. */
    private static void alter(HygrometerRoom room) {
        room.setTemperature(room.temperature() + 1);
        room.setSkill(4);
        room.advance(60);
        room.tighten(0);
        room.addHairs(0, 2);
        room.moisten(1);
        room.calibrate(1);
        room.putInBox(0, 3);
        room.setHumidity(room.humidity() + 1);
        room.advance(1);
    }

    private static HygrometerRoom plain() {
        return Rooms.of("room 10 20 3;hair 9;minutes 9;bulb 2;box 1 1;bulb 7");
    }

    private static void restored() {
        HygrometerRoom room = plain();
        room.save(0);
        alter(room);
        room.restore(0);
        Check.same("the state", Rooms.state(room), Rooms.state(plain()));
        HygrometerRoom none = Rooms.of("room 1 2 3");
        none.save(1);
        none.advance(99);
        none.restore(1);
        Check.same("no instruments", Rooms.state(none), Rooms.state(Rooms.of("room 1 2 3")));
    }

    private static void staysSaved() {
        HygrometerRoom room = plain();
        room.save(1);
        for (int times = 0; times < 12; times++) {
            alter(room);
            room.restore(1);
            Check.same("time " + times, Rooms.state(room), Rooms.state(plain()));
        }
        room.undo();
        room.restore(1);
        Check.same("after undo", Rooms.state(room), Rooms.state(plain()));
    }

    private static void bothRestored() {
        HygrometerRoom room = plain();
        room.save(0);
        alter(room);
        room.save(1);
        String altered = Rooms.state(room);
        room.restore(0);
        Check.same("slot 0", Rooms.state(room), Rooms.state(plain()));
        room.restore(1);
        Check.same("slot 1", Rooms.state(room), altered);
        room.restore(0);
        Check.same("slot 0 again", Rooms.state(room), Rooms.state(plain()));
    }

    private static void restoredMinutes() {
        HygrometerRoom room = Rooms.of("room 0 0 0");
        room.save(0);
        Rooms.pass(room, 9999);
        room.save(1);
        Check.same("least", room.restore(0), 0);
        Check.same("greatest", room.restore(1), 9999);
    }

    private static void restoredNowhere() {
        for (int slot : WRONG) {
            Check.refused("restore " + slot, NO_INDEX, Rooms::busy, room -> room.restore(slot));
            Check.refused("restore " + slot + " of a new room", NO_INDEX, HygrometerRoom::new,
                    room -> room.restore(slot));
        }
    }

    private static void nothingSaved() {
        for (int slot = 0; slot < 2; slot++) {
            int empty = slot;
            Check.refused("nothing at all, " + slot, NO_STATE, HygrometerRoom::new, room -> room.restore(empty));
            HygrometerRoom room = new HygrometerRoom();
            room.save(1 - slot);
            Check.refuses("only in the other, " + slot, NO_STATE, room, () -> room.restore(empty));
            room.save(slot);
            Rooms.load(room, "room 0 0 0");
            Check.refuses("discarded by load, " + slot, NO_STATE, room, () -> room.restore(empty));
        }
    }

    private static void lastChange() {
        HygrometerRoom room = plain();
        room.setHumidity(1);
        room.setHumidity(2);
        room.setHumidity(3);
        room.undo();
        Check.same("the third", room.humidity(), 2);
        room.undo();
        Check.same("the second", room.humidity(), 1);
        room.setHumidity(4);
        room.undo();
        Check.same("the one after undo", room.humidity(), 1);
        room.undo();
        Check.same("the first", Rooms.state(room), Rooms.state(plain()));
    }

    private static void stillUndoable() {
        HygrometerRoom room = plain();
        for (int changes = 1; changes <= 12; changes++) {
            room.setHumidity(changes);
            Check.same("of " + changes, room.undo(), Math.min(9, changes - 1));
            room.setHumidity(changes);
        }
        for (int left = 9; left >= 0; left--) {
            Check.same("at the end", room.undo(), left);
        }
        room.save(0);
        room.restore(0);
        Check.same("restore is a change", room.undo(), 0);
    }

    private static void nothingToUndo() {
        Check.refused("a new room", NO_STATE, HygrometerRoom::new, HygrometerRoom::undo);
        HygrometerRoom room = plain();
        alter(room);
        for (int left = 9; left >= 0; left--) {
            room.undo();
        }
        Check.refuses("all ten undone", NO_STATE, room, room::undo);
        Check.refuses("once more", NO_STATE, room, room::undo);
        room.setHumidity(1);
        room.undo();
        Check.refuses("the eleventh undone", NO_STATE, room, room::undo);
        room.setHumidity(1);
        Rooms.load(room, "room 0 0 0");
        Check.refuses("discarded by load", NO_STATE, room, room::undo);
    }

    /**
     * What is saved is the state as it is, in the parts that undo() restores: not the state before
     * the last change, and not the buffers, the reported error, the changes and the other slot.
     */
    private static void saved() {
        HygrometerRoom room = plain();
        room.setHumidity(11);
        room.save(0);
        room.setHumidity(12);
        room.save(1);
        room.restore(0);
        Check.same("the state as it was", room.humidity(), 11);
        room.setHumidity(13);
        room.save(0);
        room.setHumidity(14);
        room.restore(0);
        Check.same("what replaced it", room.humidity(), 13);
        room.restore(1);
        Check.same("the other slot", room.humidity(), 12);
        room.undo();
        Check.same("the changes go on", room.humidity(), 13);
        room.undo();
        Check.same("further back", room.humidity(), 14);
        otherPartsAreNotSaved();
    }

    private static void otherPartsAreNotSaved() {
        HygrometerRoom room = plain();
        room.writeInstrument(0);
        room.save(0);
        Rooms.append(room, "room 1 2 6");
        Check.same("an error", Rooms.answer(() -> room.load(10)), "IllegalArgumentException");
        Rooms.append(room, "room 7 8 3");
        room.writeReadings();
        String output = Rooms.output(room);
        room.restore(0);
        Check.same("the output stays", Rooms.output(room), output);
        Check.same("the kind stays", room.errorKind(), 2);
        Check.same("the offset stays", room.errorOffset(), 9);
        Check.same("the input stays", room.load(10), 0);
        Check.same("its humidity", room.humidity(), 7);
    }

    private static void noChange() {
        HygrometerRoom room = plain();
        room.save(0);
        room.save(1);
        Check.refuses("nothing to undo", NO_STATE, room, room::undo);
        for (int changes = 1; changes <= 10; changes++) {
            room.setHumidity(changes);
            room.save(changes % 2);
        }
        Check.same("ten changes and twelve savings", room.undo(), 9);
        Check.same("the state is altered by none", room.humidity(), 9);
    }

    private static void bothSaved() {
        for (int slot = 0; slot < 2; slot++) {
            HygrometerRoom room = plain();
            room.save(slot);
            alter(room);
            room.restore(slot);
            Check.same("slot " + slot, Rooms.state(room), Rooms.state(plain()));
        }
    }

    private static void savedMinutes() {
        HygrometerRoom room = Rooms.of("room 0 0 0");
        Check.same("least", room.save(0), 0);
        Rooms.pass(room, 9999);
        Check.same("greatest", room.save(0), 9999);
        room.undo();
        Check.same("undone", room.save(0), 9900);
    }

    private static void savedNowhere() {
        for (int slot : WRONG) {
            Check.refused("save " + slot, NO_INDEX, Rooms::busy, room -> room.save(slot));
            Check.refused("save " + slot + " of a new room", NO_INDEX, HygrometerRoom::new, room -> room.save(slot));
        }
    }
}
