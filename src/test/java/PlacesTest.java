/** What the terms say of places, sentence by sentence. */
public final class PlacesTest {
    private static final int NONE = TreeCoverForge.NONE;

    public static void main(String[] args) {
        Check.each(
                PlacesTest::neededUntilItsUse,
                PlacesTest::lastOneUntilItself,
                PlacesTest::threeRegistersAtFirst,
                PlacesTest::registersThenSlots,
                PlacesTest::sourcesAreFreeForTheResult,
                PlacesTest::leastFreeRegister,
                PlacesTest::greatestUseIsSpilled,
                PlacesTest::sameUseTheGreaterNumber,
                PlacesTest::slotThatNobodyHadYet,
                PlacesTest::registerOfTheSpilledOne,
                PlacesTest::inItsSlotAllAlong,
                PlacesTest::aSlotForEachOperator,
                PlacesTest::chainRulesTakeNoNewRegister);
    }

    /** Constants 1, 2, .. with SUBs, each over a constant and all that comes behind it. */
    private static TreeCoverForge comb(int leaves, int registers) {
        TreeCoverForge forge = Check.plain();
        for (int i = 1; i <= leaves; i++) {
            Check.pushAll(forge, 0, i);
        }
        for (int i = 1; i < leaves; i++) {
            Check.pushAll(forge, 6, 0);
        }
        Check.due("registers(" + registers + ")", forge.registers(registers), true);
        return forge;
    }

    private static void slotsAndResult(TreeCoverForge forge, int slots, int result) {
        Check.due("slots()", forge.slots(), slots);
        Check.due("run()", forge.run(), result);
        Check.due("value()", forge.value(), result);
    }

    private static void neededUntilItsUse() {
        Check.sentence("Terms: it is needed from i on until the instruction u(i) of which it is a source");
        TreeCoverForge forge = Check.plain(0, 50, 0, 7, 3, 0, 4, 0, 3, 0, 0, 5, 7, 0, 6, 0);
        Check.places(forge, 0, 1, 1, 1, 1, 2, 1, 0);
        slotsAndResult(forge, 0, 50 - 70);
    }

    private static void lastOneUntilItself() {
        Check.sentence("Terms: (the last one, of which nothing is a source, until itself)");
        for (int registers = 1; registers <= 4; registers++) {
            TreeCoverForge forge = Check.plain(0, 5);
            forge.registers(registers);
            Check.places(forge, 0);
            slotsAndResult(forge, 0, 5);
            Check.pushAll(forge, 3, 0);
            Check.places(forge, 0, 0);
            slotsAndResult(forge, 0, -5);
        }
    }

    private static void threeRegistersAtFirst() {
        Check.sentence("Terms: (K is 3 at first)");
        TreeCoverForge three = Check.plain(0, 1, 0, 2, 0, 3, 6, 0, 6, 0);
        Check.places(three, 0, 1, 2, 1, 0);
        slotsAndResult(three, 0, 2);
        TreeCoverForge four = Check.plain(0, 1, 0, 2, 0, 3, 0, 4, 6, 0, 6, 0, 6, 0);
        Check.places(four, 3, 1, 2, 0, 0, 0, 0);
        slotsAndResult(four, 1, -2);
    }

    private static void registersThenSlots() {
        Check.sentence("Terms: There are K registers 0 .. K - 1 .. and slots K, K + 1, ...");
        TreeCoverForge forge = comb(5, 1);
        Check.places(forge, 1, 2, 3, 0, 4, 0, 0, 0, 0);
        slotsAndResult(forge, 4, 3);
        forge = comb(5, 2);
        Check.places(forge, 2, 3, 4, 1, 0, 0, 0, 0, 0);
        slotsAndResult(forge, 3, 3);
        forge = comb(5, 3);
        Check.places(forge, 3, 4, 2, 0, 1, 0, 0, 0, 0);
        slotsAndResult(forge, 2, 3);
        forge = comb(5, 4);
        Check.places(forge, 4, 1, 2, 3, 0, 0, 0, 0, 0);
        slotsAndResult(forge, 1, 3);
        forge = comb(4, 4);
        Check.places(forge, 0, 1, 2, 3, 2, 1, 0);
        slotsAndResult(forge, 0, -2);
        for (int registers = 2; registers <= 4; registers++) {
            forge = comb(10, registers);
            Check.due("cover()", forge.cover(), 19);
            for (int i = 0; i < 10 - registers; i++) {
                Check.due("place of " + i, forge.instruction(i, 2), registers + i);
            }
            slotsAndResult(forge, 10 - registers, -5);
        }
    }

    private static void sourcesAreFreeForTheResult() {
        Check.sentence("Terms: (those with u(j) = i too: its own sources are read before its result is written)");
        TreeCoverForge forge = Check.plain(0, 9, 3, 0, 4, 0);
        forge.registers(1);
        Check.places(forge, 0, 0, 0);
        slotsAndResult(forge, 0, -18);
        forge = Check.plain(0, 9, 0, 4, 6, 0, 0, 2, 7, 0);
        forge.registers(2);
        Check.places(forge, 0, 1, 0, 1, 0);
        slotsAndResult(forge, 0, 10);
    }

    private static void leastFreeRegister() {
        Check.sentence("Terms: If a register is free, i gets the least free one.");
        TreeCoverForge forge = Check.plain(0, 1, 0, 2, 0, 3, 0, 4, 6, 0, 6, 0, 0, 5, 0, 6, 6, 0, 6, 0, 6, 0);
        forge.registers(4);
        Check.places(forge, 0, 1, 2, 3, 2, 1, 2, 3, 2, 1, 0);
        forge = Check.plain(0, 1, 0, 2, 0, 3, 0, 4, 6, 0, 6, 0, 6, 0);
        Check.places(forge, 3, 1, 2, 0, 0, 0, 0);
        Check.instruction(forge, 4, 6, 4, 0, 2, 0);
    }

    private static void greatestUseIsSpilled() {
        Check.sentence("Terms: Otherwise let x be that one, of i and those that have a register, with the greatest u");
        TreeCoverForge forge = Check.plain(0, 1, 0, 2, 0, 3, 5, 0, 0, 4, 0, 5, 5, 0, 5, 0, 5, 0);
        forge.registers(2);
        Check.places(forge, 2, 1, 0, 3, 1, 0, 0, 0, 0);
        slotsAndResult(forge, 2, 15);
        forge = Check.plain(0, 1, 0, 2, 5, 0, 0, 3, 0, 4, 5, 0, 0, 5, 0, 6, 5, 0, 6, 0, 6, 0);
        forge.registers(2);
        Check.places(forge, 0, 1, 2, 1, 0, 3, 1, 0, 0, 0, 0);
        slotsAndResult(forge, 2, 3 - (7 - 11));
    }

    private static void sameUseTheGreaterNumber() {
        Check.sentence("Terms: (of two with the same u the one with the greater number)");
        TreeCoverForge forge = Check.plain(0, 9, 0, 4, 6, 0);
        forge.registers(1);
        Check.places(forge, 0, 1, 0);
        Check.instruction(forge, 2, 6, 2, 0, 0, 1);
        slotsAndResult(forge, 1, 5);
        forge = comb(3, 1);
        Check.places(forge, 1, 0, 2, 0, 0);
        Check.instruction(forge, 3, 6, 3, 0, 0, 2);
        Check.instruction(forge, 4, 6, 4, 0, 1, 0);
        slotsAndResult(forge, 2, 2);
    }

    private static void slotThatNobodyHadYet() {
        Check.sentence("Terms: x gets the least slot that nobody had yet");
        TreeCoverForge forge = Check.plain(0, 50, 0, 8, 6, 0, 0, 3, 0, 1, 6, 0, 6, 0);
        forge.registers(1);
        Check.places(forge, 0, 1, 2, 0, 3, 0, 0);
        slotsAndResult(forge, 3, 40);
        forge = Check.plain(0, 9, 0, 4, 6, 0, 0, 3, 6, 0, 0, 1, 6, 0);
        forge.registers(1);
        Check.places(forge, 0, 1, 0, 2, 0, 3, 0);
        slotsAndResult(forge, 3, 1);
        Check.places(forge, 0, 1, 0, 2, 0, 3, 0);
        slotsAndResult(forge, 3, 1);
    }

    private static void registerOfTheSpilledOne() {
        Check.sentence("Terms: if x is not i, i gets the register that x had");
        TreeCoverForge forge = Check.plain(0, 1, 0, 2, 0, 3, 5, 0, 0, 4, 0, 5, 5, 0, 5, 0, 5, 0);
        Check.places(forge, 3, 1, 2, 1, 2, 0, 0, 0, 0);
        slotsAndResult(forge, 1, 15);
        forge = comb(6, 3);
        Check.places(forge, 3, 4, 5, 0, 1, 2, 1, 0, 0, 0, 0);
        slotsAndResult(forge, 3, -3);
    }

    private static void inItsSlotAllAlong() {
        Check.sentence("Terms: (x has then been in its slot all along)");
        TreeCoverForge forge = Check.plain(0, 8, 3, 0, 0, 2, 0, 3, 6, 0, 6, 0);
        forge.registers(1);
        Check.due("cover()", forge.cover(), 6);
        Check.instruction(forge, 0, 0, 0, 0, NONE, NONE);
        Check.instruction(forge, 1, 3, 1, 1, 0, NONE);
        Check.instruction(forge, 2, 0, 2, 0, NONE, NONE);
        Check.instruction(forge, 3, 0, 3, 2, NONE, NONE);
        Check.instruction(forge, 4, 6, 4, 0, 0, 2);
        Check.instruction(forge, 5, 6, 5, 0, 1, 0);
        slotsAndResult(forge, 2, -7);
    }

    /** With one register every operator with two kids finds one of them in a slot of its own. */
    private static void aSlotForEachOperator() {
        Check.sentence("Terms: slots K, K + 1, ... (as many as there can be)");
        TreeCoverForge forge = Check.plain();
        forge.registers(1);
        Check.pushFull(forge, 16);
        Check.pushAll(forge, 0, 1, 5, 0, 0, 1, 5, 0, 0, 1, 5, 0, 0, 1, 5, 0, 3, 0);
        Check.due("cover()", forge.cover(), 40);
        slotsAndResult(forge, 19, -20);
        boolean[] had = new boolean[20];
        for (int i = 0; i < 40; i++) {
            int place = forge.instruction(i, 2);
            Check.due("place of " + i + " is in bounds", place >= 0 && place <= 19, true);
            if (place > 0) {
                Check.due("slot " + place + " was had before", had[place], false);
                had[place] = true;
            }
        }
        for (int slot = 1; slot <= 19; slot++) {
            Check.due("slot " + slot + " is had", had[slot], true);
        }
    }

    private static void chainRulesTakeNoNewRegister() {
        Check.sentence("Terms: The SOURCES .. of a chain rule's the one right before it (whose register is free for it)");
        TreeCoverForge forge = Check.with(new int[] {3, 0, 0, 0, 1}, new int[] {2, 8, 3, 0, 1},
                new int[] {1, 8, 2, 0, 1}, new int[] {0, 8, 1, 0, 1}, new int[] {3, 6, 0, 0, 1});
        Check.pushAll(forge, 0, 9, 0, 4, 6, 0);
        forge.registers(1);
        Check.places(forge, 0, 0, 0, 1, 0, 0, 0, 0, 0, 0, 0, 0);
        slotsAndResult(forge, 1, 5);
        forge.registers(2);
        Check.places(forge, 0, 0, 0, 0, 1, 1, 1, 1, 0, 0, 0, 0);
        slotsAndResult(forge, 0, 5);
    }
}
