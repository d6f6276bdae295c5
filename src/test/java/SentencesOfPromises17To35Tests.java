/** A test of its own for each sentence of the promises 17 to 35 that names a boundary case. */
public final class SentencesOfPromises17To35Tests extends Asking {
    private static final String NO_SUCH_CHEST = "Throws `IndexOutOfBoundsException` if there is no such chest";
    private static final String OUT_OF_RANGE = "Throws `IllegalArgumentException` if the number is out of range";
    private static final int[] HEIGHTS = {6, 5, 4, 3, 2, 1, 0, 1, 2, 3, 4, 5};

    public static void main(String[] args) {
        run(SentencesOfPromises17To35Tests.class);
    }

    // ---- 17

    @Says(promise = 17, value = "Returns how many chests are on the quay then.")
    private static void p17HowManyAreOnTheQuayThen() {
        TeaChests x = stocked();
        for (int many = 1; many <= 4; many++) {
            int chest = ready(x, 1, DUST, 1);
            int want = many;
            due(want, () -> x.toQuay(chest));
        }
        x.load(2);
        int chest = ready(x, 1, DUST, 1);
        due(4, () -> x.toQuay(chest));
        due(4, () -> x.account(10));
        due(1, () -> x.chest(chest, 8));
    }

    @Says(promise = 17, value = "Returns how many chests are on the quay then.")
    private static void p17AllTwentyOnTheQuay() {
        TeaChests x = stocked();
        for (int many = 1; many <= 20; many++) {
            int chest = ready(x, 1, DUST, 1);
            int want = many;
            due(want, () -> x.toQuay(chest));
        }
        due(0, () -> x.account(9));
    }

    @Says(promise = 17, value = NO_SUCH_CHEST)
    private static void p17NoSuchChest() {
        noSuchChest((x, chest) -> x.toQuay(chest));
    }

    @Says(promise = 17, value = "Throws `UnsupportedOperationException` if it is refused, for the reason 3, 10, 13 or 14; this is kept")
    private static void p17Refused() {
        TeaChests x = everywhere();
        refused(x, 3, 1, () -> x.toQuay(1));
        refused(x, 3, 2, () -> x.toQuay(2));
        refused(x, 3, 3, () -> x.toQuay(3));
        int chest = x.make(1);
        refused(x, 10, chest, () -> x.toQuay(chest));
        x.line(chest);
        x.fill(chest, 1, DUST, 1);
        refused(x, 13, chest, () -> x.toQuay(chest));
        x.screw(chest, 2);
        refused(x, 13, chest, () -> x.toQuay(chest));
        x.screw(chest, 1);
        refused(x, 14, chest, () -> x.toQuay(chest));
        x.label(chest);
        due(2, () -> x.toQuay(chest));
        refused(x, 3, 1, () -> x.toQuay(chest));
    }

    // ---- 18

    @Says(promise = 18, value = "Returns the room that is left on the ship.")
    private static void p18TheRoomThatIsLeft() {
        for (int size = 1; size <= 5; size++) {
            TeaChests x = stocked();
            int chest = onQuay(x, size, DUST, 1);
            int want = 12 - size;
            due(want, () -> x.load(chest));
            due(want, () -> x.account(12));
        }
        TeaChests y = stocked();
        for (int left = 11; left >= 0; left--) {
            int want = left;
            due(want, () -> y.load(onQuay(y, 1, DUST, 1)));
        }
        due(12, () -> y.account(11));
    }

    @Says(promise = 18, value = NO_SUCH_CHEST)
    private static void p18NoSuchChest() {
        noSuchChest((x, chest) -> x.load(chest));
    }

    @Says(promise = 18, value = "Throws `UnsupportedOperationException` if it is refused, for the reason 15, 16 or 17; this is kept")
    private static void p18Refused() {
        TeaChests x = everywhere();
        refused(x, 15, 0, () -> x.load(0));
        refused(x, 15, 2, () -> x.load(2));
        refused(x, 15, 3, () -> x.load(3));
        x.pass(4);
        refused(x, 16, 2, () -> x.load(1));
        x.pass(5);
        due(5, () -> x.load(1));
        due(0, () -> x.load(onQuay(x, 5, DUST, 1)));
        int more = onQuay(x, 1, DUST, 1);
        refused(x, 17, 0, () -> x.load(more));
    }

    @Says(promise = 18, value = "Loads a chest of the quay onto the ship.")
    private static void p18ItIsOnTheShipThen() {
        TeaChests x = everywhere();
        due(5, () -> x.load(1));
        due(2, () -> x.chest(1, 8));
        due(0, () -> x.account(10));
        due(2, () -> x.account(11));
    }

    // ---- 19

    @Says(promise = 19, value = "Lets the ship sail; its chests are gone then.")
    private static void p19ItsChestsAreGoneThen() {
        TeaChests x = everywhere();
        x.sail();
        int[] places = {0, 1, 3, 3};
        for (int chest = 0; chest < places.length; chest++) {
            int asking = chest;
            due(places[chest], () -> x.chest(asking, 8));
        }
        due(2, () -> x.account(13));
        due(80, () -> x.account(3));
        due(40, () -> x.account(2));
        due(170, () -> x.account(14));
    }

    @Says(promise = 19, value = "Returns the coins that they bring.")
    private static void p19TheCoinsThatTheyBring() {
        TeaChests x = everywhere();
        due(35, x::sail);
        x.load(1);
        due(50, x::sail);
        x.toQuay(0);
        x.load(0);
        due(45, x::sail);
        due(265, () -> x.account(14));
    }

    @Says(promise = 19, value = "Returns the coins that they bring.")
    private static void p19ChestsThatBringNothing() {
        TeaChests x = stocked();
        x.setHumidity(9);
        int chest = filled(x, 1, DUST, 10);
        x.pass(24);
        finish(x, chest);
        x.load(chest);
        due(0, x::sail);
        due(10, () -> x.account(3));
        due(1, () -> x.account(13));
        due(0, () -> x.account(14));
    }

    @Says(promise = 19, value = "Throws `UnsupportedOperationException` if it is refused, for the reason 18 or 16; this is kept")
    private static void p19Refused() {
        TeaChests x = stocked();
        refused(x, 18, 0, x::sail);
        onShip(x, 1, DUST, 1);
        x.pass(4);
        refused(x, 16, 2, x::sail);
        x.pass(2);
        refused(x, 16, 0, x::sail);
        x.pass(2);
        refused(x, 16, 2, x::sail);
        x.pass(1);
        due(1, x::sail);
        refused(x, 18, 0, x::sail);
    }

    // ---- 20

    @Says(promise = 20, value = "Returns the coins that the ship would bring if it sailed now.")
    private static void p20Cargo() {
        TeaChests x = everywhere();
        due(35, x::cargo);
        x.load(1);
        due(85, x::cargo);
        // Also at low water, when it could not sail.
        x.pass(6);
        due(85, x::cargo);
        x.pass(6);
        due(85, x::sail);
        due(0, x::cargo);
        due(0, () -> new TeaChests().cargo());
    }

    // ---- 21 and 22

    private static void heights(HeightCall call) {
        TeaChests x = new TeaChests();
        for (int clock = 0; clock <= 24; clock++) {
            int now = clock;
            for (int hours : new int[] {0, 1, 5, 6, 7, 11, 12, 13, 98, 99}) {
                due(HEIGHTS[(clock + hours) % 12], () -> call.on(x, hours));
            }
            due(now, () -> x.account(0));
            x.pass(1);
        }
    }

    private interface HeightCall {
        Object on(TeaChests x, int hours) throws Exception;
    }

    @Says(promise = 21, value = "Returns the height of the water in some hours.")
    private static void p21TheHeightInSomeHours() {
        heights((x, hours) -> x.height(hours));
    }

    @Says(promise = 21, value = "- `hours`: in how many, 0 to 99")
    private static void p21From0To99Hours() {
        TeaChests x = new TeaChests();
        for (int hours = 0; hours <= 99; hours++) {
            int asking = hours;
            due(HEIGHTS[hours % 12], () -> x.height(asking));
        }
    }

    @Says(promise = 21, value = OUT_OF_RANGE)
    private static void p21HoursOutOfRange() {
        TeaChests x = everywhere();
        outside(ARGUMENT, x, 0, 99, x::height);
        x.pass(72);
        outside(ARGUMENT, x, 0, 99, x::height);
    }

    @Says(promise = 22, value = "Returns the same by a second way: by letting the water fall from 6 to 0 and rise again, hour by hour, from the hour 0 on.")
    private static void p22TheSameByASecondWay() {
        heights((x, hours) -> x.heightAgain(hours));
    }

    @Says(promise = 22, value = "- `hours`: in how many, 0 to 99")
    private static void p22From0To99Hours() {
        TeaChests x = new TeaChests();
        for (int hours = 0; hours <= 99; hours++) {
            int asking = hours;
            due(HEIGHTS[hours % 12], () -> x.heightAgain(asking));
        }
    }

    @Says(promise = 22, value = OUT_OF_RANGE)
    private static void p22HoursOutOfRange() {
        TeaChests x = everywhere();
        outside(ARGUMENT, x, 0, 99, x::heightAgain);
        x.pass(72);
        outside(ARGUMENT, x, 0, 99, x::heightAgain);
    }

    // ---- 23

    @Says(promise = 23, value = "Returns in how many hours the ship can be reached.")
    private static void p23InHowManyHours() {
        int[] hours = {0, 0, 0, 0, 5, 4, 3, 2, 1, 0, 0, 0};
        TeaChests x = new TeaChests();
        for (int clock = 0; clock <= 36; clock++) {
            due(hours[clock % 12], x::reachedIn);
            x.pass(1);
        }
    }

    @Says(promise = 23, value = "Returns the number of hours, 0 if it can be now.")
    private static void p23NothingIfItCanBeNow() {
        TeaChests x = new TeaChests();
        due(0, x::reachedIn);
        x.pass(3);
        due(0, x::reachedIn);
        x.pass(1);
        due(5, x::reachedIn);
        x.pass(5);
        due(0, x::reachedIn);
    }

    // ---- 24

    @Says(promise = 24, value = "Returns the humidity before.")
    private static void p24TheHumidityBefore() {
        TeaChests x = new TeaChests();
        due(4, () -> x.setHumidity(9));
        for (int humidity = 9; humidity >= 1; humidity--) {
            int before = humidity;
            due(before, () -> x.setHumidity(before - 1));
            due(before - 1, () -> x.account(15));
        }
        due(0, () -> x.setHumidity(0));
    }

    @Says(promise = 24, value = "Throws `IllegalArgumentException` if the humidity is out of range")
    private static void p24HumidityOutOfRange() {
        TeaChests x = new TeaChests();
        outside(ARGUMENT, x, 0, 9, x::setHumidity);
        due(4, () -> x.account(15));
    }

    // ---- 25

    @Says(promise = 25, value = "Lets hours go by.")
    private static void p25From1To72Hours() {
        TeaChests x = stocked();
        x.setHumidity(5);
        int chest = filled(x, 1, DUST, 1);
        x.pass(1);
        due(1, () -> x.account(0));
        due(1, () -> x.chest(chest, 6));
        x.pass(2);
        due(3, () -> x.account(0));
        due(3, () -> x.chest(chest, 6));
        x.pass(72);
        due(75, () -> x.account(0));
        due(20, () -> x.chest(chest, 6));
    }

    @Says(promise = 25, value = "Returns the height of the water then.")
    private static void p25TheHeightThen() {
        for (int hours = 1; hours <= 72; hours++) {
            int asking = hours;
            TeaChests x = new TeaChests();
            due(HEIGHTS[hours % 12], () -> x.pass(asking));
            due(HEIGHTS[hours % 12], () -> x.height(0));
        }
    }

    @Says(promise = 25, value = "Throws `IllegalArgumentException` if the number is not from 1 to 72")
    private static void p25HoursOutOfRange() {
        TeaChests x = everywhere();
        outside(ARGUMENT, x, 1, 72, x::pass);
        due(0, () -> x.account(0));
    }

    // ---- 26

    @Says(promise = 26, value = "Returns whether all pounds that were brought so far are in the store, in chests, sailed, or were thrown away, and all chests on the quay and on the ship are tight and have labels.")
    private static void p26WellWhateverHasGoneOn() {
        due(true, () -> new TeaChests().isWell());
        TeaChests x = everywhere();
        due(true, x::isWell);
        x.unscrew(0);
        x.bring(1, TIPS, 200);
        due(true, x::isWell);
        x.bring(1, TIPS, 60);
        x.empty(0);
        due(15, () -> x.account(4));
        due(true, x::isWell);
        x.sail();
        due(true, x::isWell);
        x.setHumidity(9);
        x.pass(72);
        due(true, x::isWell);
        x.undo();
        x.undo();
        x.undo();
        due(true, x::isWell);
        x.save();
        x.undo();
        due(true, x::isWell);
        x.restore();
        due(true, x::isWell);
        // In the house, a chest needs neither lead nor a label.
        filled(x, 1, DUST, 1);
        due(true, x::isWell);
    }

    // ---- 27

    private static final String MEAN_DAMP = "Returns the mean damp of the chests with leaves that are not gone: the sum divided by their number, both converted to double.";

    @Says(promise = 27, value = MEAN_DAMP)
    private static void p27TheMeanIsNotRounded() {
        TeaChests x = stocked();
        x.setHumidity(9);
        filled(x, 1, DUST, 1);
        due(0.0, x::meanDamp);
        x.pass(1);
        due(1.0, x::meanDamp);
        filled(x, 1, DUST, 1);
        due(1.0 / 2.0, x::meanDamp);
        filled(x, 1, DUST, 1);
        due(1.0 / 3.0, x::meanDamp);
        x.pass(1);
        due(4.0 / 3.0, x::meanDamp);
        x.pass(72);
        due(20.0, x::meanDamp);
    }

    @Says(promise = 27, value = MEAN_DAMP)
    private static void p27ChestsWithLeavesThatAreNotGone() {
        TeaChests x = stocked();
        x.setHumidity(9);
        int house = filled(x, 1, DUST, 1);
        x.pass(1);
        int quay = filled(x, 1, DUST, 1);
        x.pass(2);
        int ship = filled(x, 1, DUST, 1);
        x.pass(8);
        x.make(1);
        // Their damps are 11, 10 and 8; the empty chest does not count.
        finish(x, quay);
        finish(x, ship);
        x.load(ship);
        due(29.0 / 3.0, x::meanDamp);
        x.sail();
        due(10.5, x::meanDamp);
        x.empty(house);
        due(10.0, x::meanDamp);
    }

    @Says(promise = 27, value = "Throws `ArithmeticException` if there are none")
    private static void p27NoChestsWithLeaves() {
        TeaChests x = stocked();
        thrown(ARITHMETIC, x, x::meanDamp);
        int chest = x.make(1);
        thrown(ARITHMETIC, x, x::meanDamp);
        x.fill(chest, 1, DUST, 1);
        due(0.0, x::meanDamp);
        x.empty(chest);
        thrown(ARITHMETIC, x, x::meanDamp);
        gone(x, 1, DUST, 1);
        thrown(ARITHMETIC, x, x::meanDamp);
    }

    // ---- 28

    private static final String SAILED_SHARE = "Returns the share of the pounds brought so far that sailed, both numbers as floats.";

    @Says(promise = 28, value = SAILED_SHARE)
    private static void p28FromNothingToAll() {
        TeaChests x = new TeaChests();
        x.bring(1, DUST, 3);
        due(0.0f, x::sailedShare);
        gone(x, 1, DUST, 1);
        due(1.0f / 3.0f, x::sailedShare);
        gone(x, 1, DUST, 2);
        due(1.0f, x::sailedShare);
        x.bring(1, TIPS, 4);
        due(3.0f / 7.0f, x::sailedShare);
    }

    @Says(promise = 28, value = SAILED_SHARE)
    private static void p28ThoseThatWereThrownAwayWereBroughtToo() {
        TeaChests x = stocked();
        x.bring(1, DUST, 200);
        int chest = filled(x, 1, DUST, 10);
        x.bring(1, DUST, 10);
        x.empty(chest);
        due(10, () -> x.account(4));
        gone(x, 5, DUST, 50);
        due(50.0f / 1110.0f, x::sailedShare);
        // A chest on the ship has not sailed yet.
        onShip(x, 5, DUST, 50);
        due(50.0f / 1110.0f, x::sailedShare);
    }

    @Says(promise = 28, value = "Throws `ArithmeticException` if none were brought")
    private static void p28NoneWereBrought() {
        TeaChests x = new TeaChests();
        thrown(ARITHMETIC, x, x::sailedShare);
        x.save();
        x.bring(0, DUST, 1);
        due(0.0f, x::sailedShare);
        x.undo();
        thrown(ARITHMETIC, x, x::sailedShare);
        x.bring(0, DUST, 1);
        x.restore();
        thrown(ARITHMETIC, x, x::sailedShare);
    }

    // ---- 29

    @Says(promise = 29, value = "Returns the reason that is kept, or its detail.")
    private static void p29TheReasonOrItsDetail() {
        TeaChests x = stocked();
        due(REFUSED, x::sail);
        due(18, () -> x.reason(false));
        due(0, () -> x.reason(true));
        int chest = x.make(5);
        x.line(chest);
        due(REFUSED, () -> x.line(chest));
        due(5, () -> x.reason(false));
        due(5, () -> x.reason(true));
        x.screw(filled(x, 1, DUST, 1), 7);
        due(REFUSED, () -> x.empty(1));
        due(4, () -> x.reason(false));
        due(7, () -> x.reason(true));
        due(4, () -> x.reason(false));
    }

    @Says(promise = 29, value = "Throws `NoSuchElementException` if nothing was refused")
    private static void p29NothingWasRefused() {
        TeaChests x = new TeaChests();
        thrown(NONE, x, () -> x.reason(false));
        thrown(NONE, x, () -> x.reason(true));
        // What is thrown for another cause is no refusal, and neither is an error of syntax.
        answer(() -> x.make(0));
        answer(() -> x.line(0));
        answer(() -> x.ranked(0));
        answer(x::undo);
        answer(x::restore);
        answer(x::meanDamp);
        answer(() -> perform(x, "sail;"));
        thrown(NONE, x, () -> x.reason(false));
        thrown(NONE, x, () -> x.reason(true));
    }

    // ---- 30

    @Says(promise = 30, value = "0 the clock; 1 the pounds in the store; 2 those in chests that are not gone; 3 those that sailed so far; 4 those that were thrown away so far; 5 those that were brought so far; 6 the sheets; 7 the screws that are there; 8 the chests made so far; 9 those in the house; 10 those on the quay; 11 those on the ship; 12 the room that is left on the ship; 13 the ships that sailed so far; 14 the coins; 15 the humidity; 16 the characters in the input buffer; 17 the changes that can be taken back")
    private static void p30TheAccounts() {
        TeaChests x = everywhere();
        x.setHumidity(6);
        x.make(5);
        x.bring(1, TIPS, 250);
        x.unscrew(0);
        x.bring(1, TIPS, 10);
        x.empty(0);
        x.make(2);
        x.pass(3);
        feed(x, "abc");
        int[] accounts = {3, 1040, 60, 45, 15, 1160, 172, 182, 6, 3, 1, 1, 8, 1, 135, 6, 3, 8};
        for (int what = 0; what < accounts.length; what++) {
            int asking = what;
            due(accounts[what], () -> x.account(asking));
        }
    }

    @Says(promise = 30, value = "Throws `IllegalArgumentException` if what is out of range")
    private static void p30WhatIsOutOfRange() {
        TeaChests x = everywhere();
        outside(ARGUMENT, x, 0, 17, x::account);
    }

    // ---- 31

    @Says(promise = 31, value = "Returns the number of characters in the buffer.")
    private static void p31TheNumberOfCharacters() {
        TeaChests x = new TeaChests();
        for (int many = 1; many <= 60; many++) {
            int want = many;
            due(want, () -> x.feed(' '));
        }
        due(-100, x::perform);
        due(1, () -> x.feed(' '));
    }

    @Says(promise = 31, value = "- `letter`: any character")
    private static void p31AnyCharacter() {
        for (char letter : new char[] {0, '\n', ' ', ';', 'a', 127, 128, 255, 256, 0xd800, 0xffff}) {
            TeaChests x = new TeaChests();
            due(1, () -> x.feed(letter));
            due(1, () -> x.account(16));
            due(-100, x::perform);
        }
    }

    @Says(promise = 31, value = "Throws `IllegalStateException` if the buffer already holds 60 characters")
    private static void p31AlreadyHolds60Characters() {
        TeaChests x = new TeaChests();
        String text = "hours 72;hours 72;hours 72;hours 72;hours 72;hours 72;hours ";
        feed(x, text);
        thrown(STATE, x, () -> x.feed('1'));
        thrown(STATE, x, () -> x.feed(';'));
        // The text is as it was: it ends too early, with its 60th character.
        due(-160, x::perform);
        due(1, () -> x.feed('1'));
        TeaChests y = stocked();
        y.make(1);
        feed(y, "hours 72;hours 72;hours 72;hours 72;hours 72;hours 72;line 0");
        thrown(STATE, y, () -> y.feed('x'));
        due(7, y::perform);
    }

    // ---- 32

    private static final String PERFORM = "Parses the input buffer as a text of commands and carries them out in their order, as the methods do, all of them or none. The buffer is empty afterwards, also after an error or an exception.";

    @Says(promise = 32, value = PERFORM)
    private static void p32InTheirOrder() {
        TeaChests x = stocked();
        x.make(2);
        // In no other order could these be carried out.
        due(4, () -> perform(x, "line 0;fill 0 1.tips 20;screw 0 4;label 0"));
        due("1.tips 20", () -> labelOf(x, 0));
        due(5, () -> perform(x, "quay 0;hours 8;hours 1;load 0;sail"));
        due(60, () -> x.account(14));
        due(9, () -> x.account(0));
        due(3, () -> x.chest(0, 8));
    }

    /** The second of the three commands cannot be carried out: neither the first nor the third has been, then. */
    private static void none(String middle) {
        TeaChests x = everywhere();
        x.make(1);
        x.pass(1);
        String before = picture(x);
        feed(x, "hours 1;" + middle + ";hours 3");
        refused(x, 19, 1, x::perform);
        due(before, () -> picture(x));
        due(0, () -> x.account(16));
        due(7, x::undo);
        due(0, () -> x.account(0));
    }

    @Says(promise = 32, value = PERFORM)
    private static void p32AllOfThemOrNone() {
        none("line 0");
        none("line 9");
        none("fill 4 0.dust 1");
        none("fill 4 1.dust 11");
        none("fill 0 1.tips 5");
        none("screw 4 1");
        none("screw 0 5");
        none("label 4");
        none("label 2");
        none("quay 4");
        none("quay 1");
        none("load 0");
        none("load 3");
        none("hours 0");
        none("hours 73");
    }

    private static void cannot(String command) {
        TeaChests x = everywhere();
        x.make(5);
        feed(x, command);
        refused(x, 19, 0, x::perform);
    }

    private static void can(String command) {
        TeaChests x = everywhere();
        x.make(5);
        due(1, () -> perform(x, command));
    }

    @Says(promise = 32, value = PERFORM)
    private static void p32NumbersThatTheMethodsTake() {
        can("line 4");
        can("line 04");
        can("fill 4 1.dust 1");
        can("fill 4 1.tips 50");
        can("screw 0 1");
        can("screw 0 4");
        can("quay 0");
        can("hours 1");
        can("hours 72");
    }

    @Says(promise = 32, value = PERFORM)
    private static void p32NumbersThatTheMethodsDoNotTake() {
        cannot("line 5");
        cannot("line 20");
        cannot("line 99");
        cannot("fill 5 1.dust 1");
        cannot("fill 4 6.dust 1");
        cannot("fill 4 9.tips 1");
        cannot("fill 4 1.dust 0");
        cannot("fill 4 1.dust 51");
        cannot("fill 4 1.dust 99");
        cannot("screw 0 0");
        cannot("screw 0 9");
        cannot("screw 5 1");
        cannot("label 5");
        cannot("quay 5");
        cannot("load 5");
        cannot("hours 0");
        cannot("hours 00");
        cannot("hours 73");
        cannot("hours 99");
    }

    @Says(promise = 32, value = PERFORM)
    private static void p32TheBufferIsEmptyAfterwards() {
        TeaChests x = stocked();
        due(2, () -> perform(x, "hours 1;hours 1"));
        due(0, () -> x.account(16));
        due(-107, () -> perform(x, "hours 1x"));
        due(0, () -> x.account(16));
        due(REFUSED, () -> perform(x, "sail"));
        due(0, () -> x.account(16));
        due(-100, x::perform);
        due(0, () -> x.account(16));
        // Nothing of a longer text is left behind a shorter one.
        due(-114, () -> perform(x, "hours 1;hours x"));
        due(1, () -> perform(x, "hours 1"));
        due(3, () -> x.account(0));
        due(-105, () -> perform(x, "hours"));
        due(-103, () -> perform(x, "hou"));
        due(-115, () -> perform(x, "fill 0 1.dust 1x"));
        due(-111, () -> perform(x, "fill 0 1.du"));
        due(-100, x::perform);
    }

    @Says(promise = 32, value = "Returns the number of commands; -100 minus the error position after a syntax error.")
    private static void p32TheNumberOfCommands() {
        TeaChests x = stocked();
        for (int i = 0; i < 4; i++) {
            onQuay(x, 1, DUST, 1);
        }
        onShip(x, 1, DUST, 1);
        due(1, () -> perform(x, "sail"));
        due(9, () -> perform(x, "load 0;sail;load 1;sail;load 2;sail;load 3;sail;hours 1"));
        due(5, () -> x.account(13));
        due(5, () -> x.account(14));
    }

    @Says(promise = 32, value = "Returns the number of commands; -100 minus the error position after a syntax error.")
    private static void p32FromError100ToError160() {
        TeaChests x = new TeaChests();
        due(-100, x::perform);
        due(-100, () -> perform(x, "x"));
        due(-100, () -> perform(x, ";"));
        due(-101, () -> perform(x, "s"));
        due(-104, () -> perform(x, "sail "));
        due(-105, () -> perform(x, "sail;"));
        due(-105, () -> perform(x, "sail;;"));
        String eleven = "sail;sail;sail;sail;sail;sail;sail;sail;sail;sail;sail;";
        due(-155, () -> perform(x, eleven));
        due(-155, () -> perform(x, eleven + "xxxxx"));
        due(-159, () -> perform(x, eleven + "sailx"));
        due(-160, () -> perform(x, eleven + "sail;"));
        due(-160, () -> perform(x, eleven + "line "));
        due(-160, () -> perform(x, eleven + "hours"));
        due(-160, () -> perform(x, eleven + "screw"));
        due(-158, () -> perform(x, eleven + "linx "));
    }

    @Says(promise = 32, value = "Throws `UnsupportedOperationException` if the text is correct, and a command cannot be carried out, for the reason 19; this is kept")
    private static void p32TheNumberOfTheCommandIsKept() {
        TeaChests x = stocked();
        x.make(1);
        feed(x, "sail");
        refused(x, 19, 0, x::perform);
        feed(x, "line 0;line 0");
        refused(x, 19, 1, x::perform);
        feed(x, "line 0;label 0;line 0");
        refused(x, 19, 1, x::perform);
        feed(x, "hours 1;hours 1;hours 1;hours 1;hours 1;hours 1;hours 0");
        refused(x, 19, 6, x::perform);
        // A text that is not correct is not carried out at all, and nothing is refused.
        refused(x, 18, 0, x::sail);
        due(-112, () -> perform(x, "line 0;sail;"));
        due(18, () -> x.reason(false));
        due(0, () -> x.chest(0, 4));
    }

    // ---- 33

    private static final String UNDO = "Takes back the latest change that was not taken back: a successful call of bring, buy, make, line, fill, empty, screw, unscrew, label, toQuay, load, sail, setHumidity, pass or perform, also if nothing is different by it.";

    private static void takenBack(TeaChests x, HouseCall change) {
        String before = picture(x);
        int changes = x.account(17);
        answer(() -> change.on(x));
        due(Math.min(8, changes + 1), () -> x.account(17));
        String after = picture(x);
        due(Math.min(8, changes + 1) - 1, x::undo);
        due(before, () -> picture(x));
        answer(() -> change.on(x));
        due(after, () -> picture(x));
    }

    @Says(promise = 33, value = UNDO)
    private static void p33EachChange() {
        TeaChests x = new TeaChests();
        takenBack(x, y -> y.bring(1, DUST, 30));
        takenBack(x, y -> y.buy(true, 30));
        takenBack(x, y -> y.buy(false, 30));
        takenBack(x, y -> y.make(2));
        takenBack(x, y -> y.line(0));
        takenBack(x, y -> y.fill(0, 1, DUST, 9));
        takenBack(x, y -> y.setHumidity(5));
        takenBack(x, y -> y.pass(2));
        takenBack(x, y -> y.label(0));
        takenBack(x, y -> y.screw(0, 4));
        takenBack(x, y -> y.unscrew(0));
        takenBack(x, y -> y.empty(0));
        takenBack(x, y -> perform(y, "fill 0 1.dust 20;screw 0 8;label 0;hours 10"));
        takenBack(x, y -> y.toQuay(0));
        takenBack(x, y -> y.load(0));
        takenBack(x, y -> y.sail());
        due(1, () -> x.account(13));
        takenBack(x, y -> y.bring(5, TIPS, 1));
    }

    @Says(promise = 33, value = UNDO)
    private static void p33AlsoIfNothingIsDifferent() {
        TeaChests x = stocked();
        int chest = ready(x, 1, DUST, 1);
        x.unscrew(chest);
        x.save();
        x.restore();
        x.buy(true, 99);
        due(1, () -> x.account(17));
        x.buy(false, 99);
        x.buy(false, 99);
        due(3, () -> x.account(17));
        x.unscrew(chest);
        due(4, () -> x.account(17));
        x.label(chest);
        due(5, () -> x.account(17));
        x.setHumidity(4);
        due(6, () -> x.account(17));
        for (int left = 5; left >= 0; left--) {
            int want = left;
            due(want, x::undo);
        }
        due(STATE, x::undo);
    }

    @Says(promise = 33, value = UNDO)
    private static void p33OtherCallsAreNoChanges() {
        TeaChests x = everywhere();
        x.save();
        x.restore();
        x.pass(1);
        askAll(x);
        feed(x, "hours");
        x.save();
        due(-105, x::perform);
        due(REFUSED, () -> x.line(1));
        due(ARGUMENT, () -> x.pass(73));
        due(REFUSED, () -> perform(x, "hours 1;line 1"));
        due(1, () -> x.account(17));
        due(0, x::undo);
        due(0, () -> x.account(0));
        due(STATE, x::undo);
    }

    private static void askAll(TeaChests x) {
        picture(x);
        x.bestGarden();
        x.worth(0);
        x.ranked(0);
        x.cargo();
        x.height(1);
        x.heightAgain(1);
        x.reachedIn();
        x.isWell();
        x.meanDamp();
        x.sailedShare();
    }

    @Says(promise = 33, value = UNDO)
    private static void p33NumbersThatAreGivenAgain() {
        TeaChests x = stocked();
        filled(x, 5, TIPS, 50);
        x.undo();
        x.undo();
        // Another chest with the same number has nothing of the one before.
        due(0, () -> x.make(1));
        due(1, () -> x.chest(0, 0));
        due(0, () -> x.chest(0, 3));
        due(6, x::undo);
        due(INDEX, () -> x.chest(0, 0));
    }

    private static final String EIGHT = "The 8 latest changes are kept; older ones are gone for good.";

    @Says(promise = 33, value = EIGHT)
    private static void p33TheEightLatest() {
        for (int changes = 1; changes <= 30; changes++) {
            TeaChests x = new TeaChests();
            for (int i = 0; i < changes; i++) {
                x.pass(1);
            }
            int kept = Math.min(8, changes);
            due(kept, () -> x.account(17));
            for (int left = kept - 1; left >= 0; left--) {
                int want = left;
                due(want, x::undo);
                due(changes - kept + want, () -> x.account(0));
            }
            thrown(STATE, x, x::undo);
            due(changes - kept, () -> x.account(0));
        }
    }

    @Says(promise = 33, value = EIGHT)
    private static void p33TakingBackBetweenChanges() {
        TeaChests x = new TeaChests();
        for (int i = 0; i < 9; i++) {
            x.pass(1);
        }
        due(7, x::undo);
        due(6, x::undo);
        x.pass(10);
        due(7, () -> x.account(17));
        x.pass(10);
        x.pass(10);
        // The clock was 1, 2, .. 7, 17, 27 and 37; of these the first two cannot be reached any more.
        int[] clocks = {27, 17, 7, 6, 5, 4, 3, 2};
        for (int i = 0; i < clocks.length; i++) {
            int left = 7 - i;
            due(left, x::undo);
            due(clocks[i], () -> x.account(0));
        }
        due(STATE, x::undo);
    }

    @Says(promise = 33, value = EIGHT)
    private static void p33RefusedCallsPushNothingOut() {
        TeaChests x = new TeaChests();
        for (int i = 0; i < 8; i++) {
            x.pass(1);
        }
        for (int i = 0; i < 20; i++) {
            due(REFUSED, x::sail);
            due(REFUSED, () -> perform(x, "hours 1;sail"));
        }
        for (int left = 7; left >= 0; left--) {
            int want = left;
            due(want, x::undo);
            due(want, () -> x.account(0));
        }
    }

    @Says(promise = 33, value = "The input buffer and the reason stay.")
    private static void p33BufferAndReasonStay() {
        TeaChests x = new TeaChests();
        x.make(1);
        refused(x, 18, 0, x::sail);
        x.make(1);
        refused(x, 10, 1, () -> x.empty(1));
        feed(x, "hou");
        x.pass(1);
        feed(x, "rs 5");
        due(2, x::undo);
        due(1, x::undo);
        due(0, x::undo);
        due(10, () -> x.reason(false));
        due(1, () -> x.reason(true));
        due(7, () -> x.account(16));
        due(1, x::perform);
        due(5, () -> x.account(0));
        // Taking back a text does not bring it back into the buffer.
        feed(x, "sa");
        due(0, x::undo);
        due(2, () -> x.account(16));
    }

    @Says(promise = 33, value = "Returns the number of changes that can still be taken back.")
    private static void p33HowManyCanStillBeTakenBack() {
        TeaChests x = new TeaChests();
        for (int i = 0; i < 20; i++) {
            x.pass(1);
        }
        for (int left = 7; left >= 0; left--) {
            int want = left;
            due(want, x::undo);
            due(want, () -> x.account(17));
        }
    }

    @Says(promise = 33, value = "Throws `IllegalStateException` if there is none")
    private static void p33NoChange() {
        TeaChests x = new TeaChests();
        thrown(STATE, x, x::undo);
        x.pass(1);
        due(0, x::undo);
        thrown(STATE, x, x::undo);
        x.save();
        thrown(STATE, x, x::undo);
        x.pass(1);
        x.restore();
        thrown(STATE, x, x::undo);
    }

    // ---- 34

    private static final String SAVE = "Saves everything except the input buffer, the reason and the changes that can be taken back, in place of what was saved before.";

    @Says(promise = 34, value = SAVE)
    private static void p34SavesEverything() {
        TeaChests x = everywhere();
        x.setHumidity(8);
        filled(x, 2, BROKEN, 7);
        x.pass(3);
        x.label(4);
        String saved = picture(x);
        due(3, x::save);
        due(saved, () -> picture(x));
        x.bring(5, TIPS, 77);
        x.buy(true, 9);
        x.buy(false, 9);
        x.make(1);
        x.line(4);
        x.unscrew(0);
        x.empty(4);
        x.fill(4, 1, DUST, 3);
        x.load(1);
        x.sail();
        x.setHumidity(2);
        x.pass(40);
        due(3, x::restore);
        due(saved, () -> picture(x));
    }

    @Says(promise = 34, value = SAVE)
    private static void p34InPlaceOfWhatWasSavedBefore() {
        TeaChests x = new TeaChests();
        due(0, x::save);
        x.pass(1);
        due(1, x::save);
        x.pass(1);
        due(1, x::restore);
        due(1, () -> x.account(0));
    }

    @Says(promise = 34, value = SAVE)
    private static void p34TheChangesStay() {
        TeaChests x = new TeaChests();
        x.pass(1);
        x.pass(1);
        due(2, x::save);
        due(2, () -> x.account(17));
        due(1, x::undo);
        due(0, x::undo);
        // What was saved is not taken back.
        due(2, x::restore);
        due(2, () -> x.account(0));
    }

    @Says(promise = 34, value = "Returns the clock.")
    private static void p34TheClock() {
        TeaChests x = new TeaChests();
        due(0, x::save);
        x.pass(72);
        due(72, x::save);
        x.pass(1);
        due(73, x::save);
    }

    // ---- 35

    private static final String RESTORE = "Restores what was saved, which stays saved; the input buffer and the reason stay. No change can be taken back afterwards.";

    @Says(promise = 35, value = RESTORE)
    private static void p35ItStaysSaved() {
        TeaChests x = everywhere();
        x.save();
        String saved = picture(x);
        for (int i = 0; i < 3; i++) {
            x.unscrew(0);
            x.empty(0);
            x.make(5);
            x.load(1);
            x.sail();
            x.pass(9);
            due(0, x::restore);
            due(saved, () -> picture(x));
        }
        due(0, x::restore);
        due(saved, () -> picture(x));
    }

    @Says(promise = 35, value = RESTORE)
    private static void p35ChestsThatWereMadeOtherwise() {
        TeaChests x = new TeaChests();
        x.make(2);
        x.save();
        due(0, x::undo);
        x.make(5);
        x.make(4);
        due(0, x::restore);
        due(2, () -> x.chest(0, 0));
        due(1, () -> x.account(8));
        due(INDEX, () -> x.chest(1, 0));
        // A chest that was made behind the snapshot is made anew.
        due(1, () -> x.make(3));
        due(3, () -> x.chest(1, 0));
    }

    @Says(promise = 35, value = RESTORE)
    private static void p35BufferAndReasonStay() {
        TeaChests x = new TeaChests();
        x.make(1);
        refused(x, 10, 0, () -> x.empty(0));
        feed(x, "hours 1");
        x.save();
        refused(x, 18, 0, x::sail);
        feed(x, "2");
        x.restore();
        due(18, () -> x.reason(false));
        due(0, () -> x.reason(true));
        due(8, () -> x.account(16));
        due(1, x::perform);
        due(12, () -> x.account(0));
    }

    @Says(promise = 35, value = RESTORE)
    private static void p35NoChangeCanBeTakenBack() {
        TeaChests x = new TeaChests();
        for (int i = 0; i < 12; i++) {
            x.pass(1);
        }
        x.save();
        x.pass(1);
        due(12, x::restore);
        due(0, () -> x.account(17));
        thrown(STATE, x, x::undo);
        for (int i = 0; i < 9; i++) {
            x.pass(1);
        }
        for (int left = 7; left >= 0; left--) {
            int want = left;
            due(want, x::undo);
            due(13 + want, () -> x.account(0));
        }
        thrown(STATE, x, x::undo);
    }

    @Says(promise = 35, value = "Returns the clock.")
    private static void p35TheClock() {
        TeaChests x = new TeaChests();
        x.pass(30);
        x.save();
        x.pass(5);
        due(30, x::restore);
        due(30, () -> x.account(0));
    }

    @Says(promise = 35, value = "Throws `IllegalStateException` if nothing was saved")
    private static void p35NothingWasSaved() {
        TeaChests x = new TeaChests();
        thrown(STATE, x, x::restore);
        x.pass(1);
        thrown(STATE, x, x::restore);
        due(0, x::undo);
        due(0, x::save);
        due(0, x::restore);
    }
}
