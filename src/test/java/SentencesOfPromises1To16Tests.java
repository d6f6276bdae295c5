/** A test of its own for each sentence of the promises 1 to 16 that names a boundary case. */
public final class SentencesOfPromises1To16Tests extends Asking {
    private static final String NO_SUCH_CHEST = "Throws `IndexOutOfBoundsException` if there is no such chest";
    private static final String OUT_OF_RANGE = "Throws `IllegalArgumentException` if the number is out of range";

    public static void main(String[] args) {
        run(SentencesOfPromises1To16Tests.class);
    }

    // ---- 1

    @Says(promise = 1, value = "Creates a house without leaves and chests.")
    private static void p01WithoutLeavesAndChests() {
        TeaChests x = new TeaChests();
        for (int garden = 0; garden < 6; garden++) {
            for (int kind = 0; kind < 3; kind++) {
                int g = garden;
                int k = kind;
                due(0, () -> x.leaves(g, k));
            }
        }
        int[] accounts = {0, 0, 0, 0, 0, 0, 10, 20, 0, 0, 0, 0, 12, 0, 0, 4, 0, 0};
        for (int what = 0; what < accounts.length; what++) {
            int asking = what;
            due(accounts[what], () -> x.account(asking));
        }
        due(INDEX, () -> x.chest(0, 0));
        due(NONE, () -> x.ranked(0));
        due(true, x::isWell);
        due(0, x::cargo);
    }

    @Says(promise = 1, value = "Creates a house without leaves and chests.")
    private static void p01HousesAreApart() {
        TeaChests x = everywhere();
        x.save();
        feed(x, "sail");
        TeaChests y = new TeaChests();
        due(0, () -> y.account(1));
        due(0, () -> y.account(8));
        due(0, () -> y.account(16));
        due(STATE, y::restore);
        due(STATE, y::undo);
    }

    // ---- 2

    @Says(promise = 2, value = "- `pounds`: how many pounds, 1 to 500")
    private static void p02From1To500Pounds() {
        TeaChests x = new TeaChests();
        due(1, () -> x.bring(0, DUST, 1));
        due(500, () -> x.bring(5, TIPS, 500));
        due(501, () -> x.account(5));
        outside(ARGUMENT, x, 1, 500, pounds -> x.bring(2, BROKEN, pounds));
    }

    @Says(promise = 2, value = "Returns how many there are then.")
    private static void p02HowManyThereAreThen() {
        TeaChests x = new TeaChests();
        due(7, () -> x.bring(3, BROKEN, 7));
        due(20, () -> x.bring(3, BROKEN, 13));
        due(5, () -> x.bring(3, TIPS, 5));
        due(4, () -> x.bring(4, BROKEN, 4));
        due(29, () -> x.account(5));
    }

    @Says(promise = 2, value = "Throws `IndexOutOfBoundsException` if there is no such garden or kind")
    private static void p02NoSuchGardenOrKind() {
        TeaChests x = new TeaChests();
        outside(INDEX, x, 0, 5, garden -> x.bring(garden, DUST, 1));
        outside(INDEX, x, 0, 2, kind -> x.bring(3, kind, 1));
        // 1 and -1 together would be an index of the store.
        thrown(INDEX, x, () -> x.bring(1, -1, 1));
        thrown(INDEX, x, () -> x.bring(1, 3, 1));
        thrown(INDEX, x, () -> x.bring(-1, 5, 1));
    }

    @Says(promise = 2, value = OUT_OF_RANGE)
    private static void p02PoundsOutOfRange() {
        TeaChests x = new TeaChests();
        x.bring(1, DUST, 500);
        outside(ARGUMENT, x, 1, 500, pounds -> x.bring(1, DUST, pounds));
        outside(ARGUMENT, x, 1, 500, pounds -> x.bring(0, DUST, pounds));
    }

    @Says(promise = 2, value = "Throws `UnsupportedOperationException` if it is refused, for the reason 2; this is kept")
    private static void p02Refused() {
        TeaChests x = new TeaChests();
        x.bring(1, DUST, 300);
        refused(x, 2, 300, () -> x.bring(1, DUST, 201));
        due(500, () -> x.bring(1, DUST, 200));
        refused(x, 2, 500, () -> x.bring(1, DUST, 500));
        due(500, () -> x.bring(1, BROKEN, 500));
        // Of what is in chests, there is room in the store.
        x.make(5);
        x.fill(0, 1, DUST, 50);
        due(500, () -> x.bring(1, DUST, 50));
        due(550, () -> x.account(2) + x.leaves(1, DUST));
    }

    // ---- 3

    @Says(promise = 3, value = "Returns the pounds of a kind of a garden in the store.")
    private static void p03ThePoundsInTheStore() {
        TeaChests x = new TeaChests();
        for (int i = 0; i < 18; i++) {
            x.bring(i / 3, i % 3, 100 + i);
        }
        x.make(5);
        x.fill(0, 5, TIPS, 50);
        for (int i = 0; i < 18; i++) {
            int leaf = i;
            due(i == 17 ? 67 : 100 + i, () -> x.leaves(leaf / 3, leaf % 3));
        }
    }

    @Says(promise = 3, value = "Throws `IndexOutOfBoundsException` if there is no such garden or kind")
    private static void p03NoSuchGardenOrKind() {
        TeaChests x = stocked();
        outside(INDEX, x, 0, 5, garden -> x.leaves(garden, DUST));
        outside(INDEX, x, 0, 2, kind -> x.leaves(1, kind));
    }

    // ---- 4

    private static final String BEST_GARDEN = "Returns the garden with the most leaves of all kinds together, of several that with the most tips, and of these the lowest.";

    @Says(promise = 4, value = BEST_GARDEN)
    private static void p04TheMostOfAllKinds() {
        TeaChests x = new TeaChests();
        for (int garden = 0; garden < 6; garden++) {
            int best = garden;
            x.bring(garden, garden % 3, 10 + garden);
            due(best, x::bestGarden);
        }
        x.bring(2, TIPS, 2);
        due(5, x::bestGarden);
        x.bring(2, DUST, 2);
        due(2, x::bestGarden);
    }

    @Says(promise = 4, value = BEST_GARDEN)
    private static void p04OfSeveralTheMostTips() {
        TeaChests x = new TeaChests();
        x.bring(1, BROKEN, 10);
        x.bring(4, DUST, 9);
        x.bring(4, TIPS, 1);
        due(4, x::bestGarden);
        x.bring(2, DUST, 8);
        x.bring(2, TIPS, 2);
        due(2, x::bestGarden);
        x.bring(5, TIPS, 10);
        due(5, x::bestGarden);
        // More tips do not help a garden with fewer leaves.
        x.bring(1, DUST, 1);
        due(1, x::bestGarden);
    }

    @Says(promise = 4, value = BEST_GARDEN)
    private static void p04OfTheseTheLowest() {
        TeaChests x = new TeaChests();
        due(0, x::bestGarden);
        x.bring(5, TIPS, 3);
        due(5, x::bestGarden);
        x.bring(3, TIPS, 3);
        due(3, x::bestGarden);
        x.bring(4, TIPS, 3);
        due(3, x::bestGarden);
        x.bring(0, TIPS, 3);
        due(0, x::bestGarden);
        x.make(1);
        x.fill(0, 0, TIPS, 1);
        due(3, x::bestGarden);
    }

    // ---- 5

    private static final String BUY = "Brings sheets of lead, or screws, but not so many that there would be more than 200.";

    @Says(promise = 5, value = BUY)
    private static void p05NotMoreThan200() {
        for (boolean areScrews : new boolean[] {false, true}) {
            TeaChests x = new TeaChests();
            int before = areScrews ? 20 : 10;
            due(before + 99, () -> x.buy(areScrews, 99));
            due(199, () -> x.buy(areScrews, 80 + (areScrews ? 0 : 10)));
            due(200, () -> x.buy(areScrews, 2));
            due(200, () -> x.buy(areScrews, 1));
            due(200, () -> x.buy(areScrews, 99));
            due(200, () -> x.account(areScrews ? 7 : 6));
            due(areScrews ? 10 : 20, () -> x.account(areScrews ? 6 : 7));
        }
    }

    @Says(promise = 5, value = BUY)
    private static void p05JustAsManyAs200() {
        for (boolean areScrews : new boolean[] {false, true}) {
            TeaChests x = new TeaChests();
            x.buy(areScrews, 99);
            due(200, () -> x.buy(areScrews, areScrews ? 81 : 91));
            due(200, () -> x.account(areScrews ? 7 : 6));
        }
    }

    @Says(promise = 5, value = "- `many`: how many, 1 to 99")
    private static void p05From1To99() {
        TeaChests x = new TeaChests();
        due(11, () -> x.buy(false, 1));
        due(110, () -> x.buy(false, 99));
        due(21, () -> x.buy(true, 1));
        due(120, () -> x.buy(true, 99));
    }

    @Says(promise = 5, value = OUT_OF_RANGE)
    private static void p05OutOfRange() {
        TeaChests x = new TeaChests();
        outside(ARGUMENT, x, 1, 99, many -> x.buy(true, many));
        outside(ARGUMENT, x, 1, 99, many -> x.buy(false, many));
    }

    // ---- 6

    @Says(promise = 6, value = "Makes an empty chest.")
    private static void p06AnEmptyChest() {
        TeaChests x = everywhere();
        due(4, () -> x.make(3));
        due(3, () -> x.chest(4, 0));
        due(-1, () -> x.chest(4, 1));
        due(-1, () -> x.chest(4, 2));
        for (int what = 3; what <= 9; what++) {
            int asking = what;
            due(0, () -> x.chest(4, asking));
        }
        due(2, () -> x.account(9));
    }

    @Says(promise = 6, value = "Returns its number.")
    private static void p06ItsNumber() {
        TeaChests x = new TeaChests();
        for (int number = 0; number < 20; number++) {
            int want = number;
            due(want, () -> x.make(5));
        }
        x.undo();
        x.undo();
        due(18, () -> x.make(4));
        due(4, () -> x.chest(18, 0));
        due(19, () -> x.make(1));
    }

    @Says(promise = 6, value = "Throws `IllegalArgumentException` if the size is out of range")
    private static void p06SizeOutOfRange() {
        TeaChests x = new TeaChests();
        outside(ARGUMENT, x, 1, 5, x::make);
        due(0, () -> x.make(1));
        due(1, () -> x.make(5));
    }

    @Says(promise = 6, value = "Throws `UnsupportedOperationException` if it is refused, for the reason 1; this is kept")
    private static void p06Refused() {
        TeaChests x = new TeaChests();
        for (int i = 0; i < 20; i++) {
            x.make(1);
        }
        refused(x, 1, 20, () -> x.make(1));
        refused(x, 1, 20, () -> x.make(5));
        due(7, x::undo);
        due(19, () -> x.make(1));
    }

    // ---- 7

    @Says(promise = 7, value = "Returns the sheets that are left.")
    private static void p07TheSheetsThatAreLeft() {
        TeaChests x = new TeaChests();
        x.make(1);
        x.make(4);
        x.make(5);
        due(8, () -> x.line(0));
        due(0, () -> x.line(1));
        x.buy(false, 99);
        due(89, () -> x.line(2));
        due(89, () -> x.account(6));
        due(1, () -> x.chest(2, 4));
    }

    @Says(promise = 7, value = NO_SUCH_CHEST)
    private static void p07NoSuchChest() {
        noSuchChest((x, chest) -> x.line(chest));
    }

    @Says(promise = 7, value = "Throws `UnsupportedOperationException` if it is refused, for the reason 3, 4, 5 or 6; this is kept")
    private static void p07Refused() {
        TeaChests x = everywhere();
        refused(x, 3, 1, () -> x.line(1));
        refused(x, 3, 2, () -> x.line(2));
        refused(x, 3, 3, () -> x.line(3));
        refused(x, 4, 4, () -> x.line(0));
        x.unscrew(0);
        refused(x, 5, 2, () -> x.line(0));
        TeaChests y = new TeaChests();
        y.make(5);
        y.make(1);
        y.line(0);
        refused(y, 6, 0, () -> y.line(1));
    }

    @Says(promise = 7, value = "Lines a chest with lead.")
    private static void p07AChestWithLeavesAndALabel() {
        TeaChests x = stocked();
        x.setHumidity(9);
        int chest = filled(x, 1, TIPS, 5);
        x.pass(1);
        x.label(chest);
        due(198, () -> x.line(chest));
        due("1.tips 5 damp", () -> labelOf(x, chest));
        due(5, () -> x.chest(chest, 3));
        due(1, () -> x.chest(chest, 6));
    }

    // ---- 8

    @Says(promise = 8, value = "- `pounds`: how many pounds, 1 to 50")
    private static void p08From1To50Pounds() {
        TeaChests x = stocked();
        x.make(5);
        due(49, () -> x.fill(0, 1, DUST, 1));
        x.empty(0);
        due(0, () -> x.fill(0, 1, DUST, 50));
        due(250, () -> x.leaves(1, DUST));
    }

    @Says(promise = 8, value = "Returns the room that is left in the chest.")
    private static void p08TheRoomThatIsLeft() {
        TeaChests x = stocked();
        for (int size = 1; size <= 5; size++) {
            int chest = x.make(size);
            int room = 10 * size;
            due(room - 1, () -> x.fill(chest, 1, TIPS, 1));
            due(room - 4, () -> x.fill(chest, 1, TIPS, 3));
            due(0, () -> x.fill(chest, 1, TIPS, room - 4));
        }
    }

    @Says(promise = 8, value = "Throws `IndexOutOfBoundsException` if there is no such chest, garden or kind")
    private static void p08NoSuchChestGardenOrKind() {
        noSuchChest((x, chest) -> x.fill(chest, 1, DUST, 1));
        TeaChests x = stocked();
        x.make(1);
        outside(INDEX, x, 0, 5, garden -> x.fill(0, garden, DUST, 1));
        outside(INDEX, x, 0, 2, kind -> x.fill(0, 1, kind, 1));
        thrown(INDEX, x, () -> x.fill(0, 2, -1, 1));
        thrown(INDEX, x, () -> x.fill(0, 0, 3, 1));
    }

    @Says(promise = 8, value = OUT_OF_RANGE)
    private static void p08PoundsOutOfRange() {
        TeaChests x = everywhere();
        x.make(5);
        outside(ARGUMENT, x, 1, 50, pounds -> x.fill(4, 1, DUST, pounds));
        // Also where it would be refused.
        outside(ARGUMENT, x, 1, 50, pounds -> x.fill(1, 1, DUST, pounds));
    }

    @Says(promise = 8, value = "Throws `UnsupportedOperationException` if it is refused, for the reason 3, 4, 7, 8 or 9; this is kept")
    private static void p08Refused() {
        TeaChests x = everywhere();
        refused(x, 3, 1, () -> x.fill(1, 1, BROKEN, 1));
        refused(x, 3, 2, () -> x.fill(2, 1, DUST, 1));
        refused(x, 3, 3, () -> x.fill(3, 1, TIPS, 1));
        refused(x, 4, 4, () -> x.fill(0, 1, TIPS, 1));
        x.unscrew(0);
        refused(x, 7, 12, () -> x.fill(0, 1, BROKEN, 1));
        refused(x, 8, 5, () -> x.fill(0, 1, TIPS, 6));
        due(0, () -> x.fill(0, 1, TIPS, 5));
        x.make(1);
        x.bring(2, DUST, 4);
        refused(x, 9, 4, () -> x.fill(4, 2, DUST, 5));
        due(6, () -> x.fill(4, 2, DUST, 4));
    }

    // ---- 9

    private static final String EMPTY = "Takes all leaves out of a chest, back into the store; what would be more than 500 pounds there is thrown away.";

    @Says(promise = 9, value = EMPTY)
    private static void p09BackIntoTheStore() {
        TeaChests x = stocked();
        x.bring(1, DUST, 200);
        int chest = filled(x, 5, DUST, 40);
        x.bring(1, DUST, 30);
        x.make(1);
        x.fill(1, 1, DUST, 1);
        // There are 489 pounds, so 11 of the 40 go back; with 460 there, all of them do.
        due(489, () -> x.leaves(1, DUST));
        due(40, () -> x.empty(chest));
        due(500, () -> x.leaves(1, DUST));
        due(29, () -> x.account(4));
        x.undo();
        due(0, () -> x.account(4));
        x.make(3);
        x.fill(2, 1, DUST, 29);
        due(40, () -> x.empty(chest));
        due(500, () -> x.leaves(1, DUST));
        due(0, () -> x.account(4));
        due(29, () -> x.empty(2));
        due(29, () -> x.account(4));
        due(true, x::isWell);
    }

    @Says(promise = 9, value = EMPTY)
    private static void p09OneTooManyIsThrownAway() {
        TeaChests x = new TeaChests();
        x.bring(4, BROKEN, 500);
        x.make(1);
        x.fill(0, 4, BROKEN, 2);
        x.bring(4, BROKEN, 1);
        due(2, () -> x.empty(0));
        due(500, () -> x.leaves(4, BROKEN));
        due(1, () -> x.account(4));
        x.fill(0, 4, BROKEN, 2);
        due(2, () -> x.empty(0));
        due(1, () -> x.account(4));
        x.fill(0, 4, BROKEN, 3);
        x.bring(4, BROKEN, 3);
        due(3, () -> x.empty(0));
        due(4, () -> x.account(4));
        due(504, () -> x.account(5));
    }

    @Says(promise = 9, value = "Returns the pounds that are taken out.")
    private static void p09ThePoundsThatAreTakenOut() {
        TeaChests x = stocked();
        int one = filled(x, 1, TIPS, 1);
        int all = filled(x, 5, TIPS, 50);
        due(1, () -> x.empty(one));
        due(50, () -> x.empty(all));
        due(300, () -> x.leaves(1, TIPS));
        due(-1, () -> x.chest(all, 1));
        due(-1, () -> x.chest(all, 2));
        due(0, () -> x.chest(all, 3));
    }

    @Says(promise = 9, value = NO_SUCH_CHEST)
    private static void p09NoSuchChest() {
        noSuchChest((x, chest) -> x.empty(chest));
    }

    @Says(promise = 9, value = "Throws `UnsupportedOperationException` if it is refused, for the reason 3, 4 or 10; this is kept")
    private static void p09Refused() {
        TeaChests x = everywhere();
        refused(x, 3, 1, () -> x.empty(1));
        refused(x, 3, 2, () -> x.empty(2));
        refused(x, 3, 3, () -> x.empty(3));
        refused(x, 4, 4, () -> x.empty(0));
        x.unscrew(0);
        due(15, () -> x.empty(0));
        refused(x, 10, 0, () -> x.empty(0));
        x.make(1);
        refused(x, 10, 4, () -> x.empty(4));
    }

    // ---- 10

    @Says(promise = 10, value = "- `screws`: how many, 1 to 8")
    private static void p10From1To8Screws() {
        TeaChests x = stocked();
        filled(x, 1, DUST, 1);
        filled(x, 1, DUST, 1);
        due(false, () -> x.screw(0, 1));
        due(1, () -> x.chest(0, 5));
        due(false, () -> x.screw(1, 8));
        due(8, () -> x.chest(1, 5));
        due(191, () -> x.account(7));
    }

    @Says(promise = 10, value = "Returns whether it is tight then.")
    private static void p10WhetherItIsTightThen() {
        for (int size = 1; size <= 5; size++) {
            TeaChests x = stocked();
            int lined = filled(x, size, DUST, 1);
            int open = filled(x, size, DUST, 1);
            x.line(lined);
            for (int screws = 1; screws <= 8; screws++) {
                boolean isTight = screws >= size + 2;
                due(isTight, () -> x.screw(lined, 1));
                due(isTight ? 1 : 0, () -> x.chest(lined, 7));
                due(false, () -> x.screw(open, 1));
            }
        }
    }

    @Says(promise = 10, value = NO_SUCH_CHEST)
    private static void p10NoSuchChest() {
        noSuchChest((x, chest) -> x.screw(chest, 1));
    }

    @Says(promise = 10, value = OUT_OF_RANGE)
    private static void p10ScrewsOutOfRange() {
        TeaChests x = everywhere();
        outside(ARGUMENT, x, 1, 8, screws -> x.screw(0, screws));
        outside(ARGUMENT, x, 1, 8, screws -> x.screw(1, screws));
    }

    @Says(promise = 10, value = "Throws `UnsupportedOperationException` if it is refused, for the reason 3, 10, 11 or 12; this is kept")
    private static void p10Refused() {
        TeaChests x = everywhere();
        refused(x, 3, 1, () -> x.screw(1, 1));
        refused(x, 3, 2, () -> x.screw(2, 1));
        refused(x, 3, 3, () -> x.screw(3, 1));
        x.make(1);
        refused(x, 10, 4, () -> x.screw(4, 1));
        refused(x, 12, 4, () -> x.screw(0, 5));
        due(true, () -> x.screw(0, 4));
        TeaChests y = new TeaChests();
        y.bring(1, DUST, 9);
        for (int i = 0; i < 3; i++) {
            filled(y, 1, DUST, 1);
        }
        y.screw(0, 8);
        y.screw(1, 8);
        refused(y, 11, 4, () -> y.screw(2, 5));
        due(false, () -> y.screw(2, 4));
    }

    // ---- 11

    private static final String UNSCREW = "Takes all screws out of a chest; those by which there would be more than 200 are lost.";

    @Says(promise = 11, value = UNSCREW)
    private static void p11TheScrewsAreThereAgain() {
        TeaChests x = new TeaChests();
        x.bring(1, DUST, 9);
        int chest = filled(x, 1, DUST, 1);
        x.screw(chest, 5);
        due(15, () -> x.account(7));
        due(5, () -> x.unscrew(chest));
        due(20, () -> x.account(7));
        due(0, () -> x.chest(chest, 5));
    }

    @Says(promise = 11, value = UNSCREW)
    private static void p11MoreThan200AreLost() {
        for (int there = 191; there <= 200; there++) {
            TeaChests x = stocked();
            int chest = filled(x, 1, DUST, 1);
            int other = filled(x, 1, DUST, 1);
            int third = filled(x, 1, DUST, 1);
            x.screw(chest, 8);
            x.buy(true, 8);
            if (there < 200) {
                x.screw(other, Math.min(8, 200 - there));
            }
            if (there < 192) {
                x.screw(third, 192 - there);
            }
            int before = there;
            due(before, () -> x.account(7));
            due(8, () -> x.unscrew(chest));
            due(Math.min(200, before + 8), () -> x.account(7));
            due(0, () -> x.chest(chest, 5));
        }
    }

    @Says(promise = 11, value = "Returns how many it had.")
    private static void p11HowManyItHad() {
        TeaChests x = stocked();
        int chest = filled(x, 1, DUST, 1);
        due(0, () -> x.unscrew(chest));
        for (int screws = 1; screws <= 8; screws++) {
            int want = screws;
            x.screw(chest, screws);
            due(want, () -> x.unscrew(chest));
        }
        int empty = x.make(1);
        due(0, () -> x.unscrew(empty));
    }

    @Says(promise = 11, value = NO_SUCH_CHEST)
    private static void p11NoSuchChest() {
        noSuchChest((x, chest) -> x.unscrew(chest));
    }

    @Says(promise = 11, value = "Throws `UnsupportedOperationException` if it is refused, for the reason 3; this is kept")
    private static void p11Refused() {
        TeaChests x = everywhere();
        refused(x, 3, 1, () -> x.unscrew(1));
        refused(x, 3, 2, () -> x.unscrew(2));
        refused(x, 3, 3, () -> x.unscrew(3));
        due(4, () -> x.unscrew(0));
        due(0, () -> x.unscrew(0));
    }

    // ---- 12

    @Says(promise = 12, value = "Labels a chest, in place of an earlier label.")
    private static void p12InPlaceOfAnEarlierLabel() {
        TeaChests x = stocked();
        x.setHumidity(9);
        int chest = filled(x, 1, BROKEN, 10);
        x.label(chest);
        due("1.broken 10", () -> labelOf(x, chest));
        x.pass(1);
        due(16, () -> x.label(chest));
        due("1.broken 10 damp", () -> labelOf(x, chest));
        // The later label is the shorter one.
        x.empty(chest);
        x.fill(chest, 1, DUST, 9);
        due(8, () -> x.label(chest));
        due("1.dust 9", () -> labelOf(x, chest));
        due(NONE, () -> x.labelled(chest, 8));
    }

    @Says(promise = 12, value = "Returns the length of the label.")
    private static void p12TheLengthOfTheLabel() {
        TeaChests x = stocked();
        x.setHumidity(9);
        int shortest = filled(x, 5, DUST, 1);
        int longest = filled(x, 5, BROKEN, 10);
        due(8, () -> x.label(shortest));
        due(11, () -> x.label(longest));
        x.pass(1);
        due(13, () -> x.label(shortest));
        due(16, () -> x.label(longest));
        due(16, () -> x.chest(longest, 9));
    }

    @Says(promise = 12, value = NO_SUCH_CHEST)
    private static void p12NoSuchChest() {
        noSuchChest((x, chest) -> x.label(chest));
    }

    @Says(promise = 12, value = "Throws `UnsupportedOperationException` if it is refused, for the reason 3 or 10; this is kept")
    private static void p12Refused() {
        TeaChests x = everywhere();
        refused(x, 3, 1, () -> x.label(1));
        refused(x, 3, 2, () -> x.label(2));
        refused(x, 3, 3, () -> x.label(3));
        x.make(1);
        refused(x, 10, 4, () -> x.label(4));
        x.fill(4, 1, DUST, 1);
        due(8, () -> x.label(4));
    }

    // ---- 13

    @Says(promise = 13, value = "- `index`: the index, from 0")
    private static void p13FromIndex0() {
        TeaChests x = new TeaChests();
        x.bring(3, TIPS, 20);
        x.make(2);
        x.fill(0, 3, TIPS, 20);
        x.label(0);
        String label = "3.tips 20";
        for (int i = 0; i < label.length(); i++) {
            int index = i;
            due(label.charAt(i), () -> x.labelled(0, index));
        }
    }

    @Says(promise = 13, value = NO_SUCH_CHEST)
    private static void p13NoSuchChest() {
        noSuchChest((x, chest) -> x.labelled(chest, 0));
        noSuchChest((x, chest) -> x.labelled(chest, -1));
    }

    @Says(promise = 13, value = "Throws `NoSuchElementException` if it has no label, or no such character")
    private static void p13NoLabelOrNoSuchCharacter() {
        TeaChests x = stocked();
        x.make(1);
        thrown(NONE, x, () -> x.labelled(0, 0));
        x.fill(0, 1, DUST, 9);
        thrown(NONE, x, () -> x.labelled(0, 0));
        x.label(0);
        due('9', () -> x.labelled(0, 7));
        outside(NONE, x, 0, 7, index -> x.labelled(0, index));
        x.fill(0, 1, DUST, 1);
        thrown(NONE, x, () -> x.labelled(0, 0));
    }

    // ---- 14

    @Says(promise = 14, value = "0 the size; 1 the garden, -1 if it is empty; 2 the kind, -1 if it is empty; 3 the pounds; 4 for 1 if it is lined, and 0 otherwise; 5 the screws; 6 the damp; 7 for 1 if it is tight, and 0 otherwise; 8 where it is: 0 in the house, 1 on the quay, 2 on the ship, 3 gone; 9 the length of its label, 0 without one")
    private static void p14TheNumbersOfAChest() {
        TeaChests x = stocked();
        x.bring(4, TIPS, 60);
        x.setHumidity(9);
        numbersAre(x, x.make(4), 4, -1, -1, 0, 0, 0, 0, 0, 0, 0);
        x.fill(0, 4, TIPS, 33);
        numbersAre(x, 0, 4, 4, TIPS, 33, 0, 0, 0, 0, 0, 0);
        x.line(0);
        numbersAre(x, 0, 4, 4, TIPS, 33, 1, 0, 0, 0, 0, 0);
        x.screw(0, 5);
        x.pass(2);
        numbersAre(x, 0, 4, 4, TIPS, 33, 1, 5, 2, 0, 0, 0);
        x.screw(0, 1);
        x.label(0);
        numbersAre(x, 0, 4, 4, TIPS, 33, 1, 6, 2, 1, 0, 14);
        x.toQuay(0);
        numbersAre(x, 0, 4, 4, TIPS, 33, 1, 6, 2, 1, 1, 14);
        x.load(0);
        numbersAre(x, 0, 4, 4, TIPS, 33, 1, 6, 2, 1, 2, 14);
        x.sail();
        numbersAre(x, 0, 4, 4, TIPS, 33, 1, 6, 2, 1, 3, 14);
        x.make(1);
        x.fill(1, 1, DUST, 1);
        x.empty(1);
        numbersAre(x, 1, 1, -1, -1, 0, 0, 0, 0, 0, 0, 0);
    }

    private static void numbersAre(TeaChests x, int chest, int... numbers) {
        for (int what = 0; what < numbers.length; what++) {
            int asking = what;
            due(numbers[what], () -> x.chest(chest, asking));
        }
    }

    @Says(promise = 14, value = NO_SUCH_CHEST)
    private static void p14NoSuchChest() {
        noSuchChest((x, chest) -> x.chest(chest, 0));
        noSuchChest((x, chest) -> x.chest(chest, 10));
    }

    @Says(promise = 14, value = "Throws `IllegalArgumentException` if what is out of range")
    private static void p14WhatIsOutOfRange() {
        TeaChests x = everywhere();
        outside(ARGUMENT, x, 0, 9, what -> x.chest(0, what));
        outside(ARGUMENT, x, 0, 9, what -> x.chest(3, what));
    }

    // ---- 15

    @Says(promise = 15, value = "Returns the coins that a chest would bring if it sailed now, wherever it is.")
    private static void p15WhereverItIs() {
        TeaChests x = everywhere();
        int[] worths = {45, 50, 35, 135};
        for (int chest = 0; chest < worths.length; chest++) {
            int asking = chest;
            due(worths[chest], () -> x.worth(asking));
        }
        // It does not matter whether the ship can be reached.
        x.pass(6);
        due(35, () -> x.worth(2));
        due(45, () -> x.worth(0));
    }

    @Says(promise = 15, value = "Returns the coins, 0 if it is empty.")
    private static void p15NothingIfItIsEmpty() {
        TeaChests x = stocked();
        for (int size = 1; size <= 5; size++) {
            int chest = x.make(size);
            due(0, () -> x.worth(chest));
        }
        x.fill(0, 1, TIPS, 1);
        due(3, () -> x.worth(0));
        x.empty(0);
        due(0, () -> x.worth(0));
    }

    @Says(promise = 15, value = NO_SUCH_CHEST)
    private static void p15NoSuchChest() {
        noSuchChest((x, chest) -> x.worth(chest));
    }

    // ---- 16

    private static final String RANKED = "Returns a chest that is not gone, by its worth: the greatest first, of several the one with less damp, and then the lowest.";

    private static void ranksAre(TeaChests x, int... chests) {
        for (int place = 0; place < chests.length; place++) {
            int asking = place;
            due(chests[place], () -> x.ranked(asking));
        }
        due(NONE, () -> x.ranked(chests.length));
    }

    @Says(promise = 16, value = RANKED)
    private static void p16TheGreatestWorthFirst() {
        TeaChests x = stocked();
        filled(x, 1, DUST, 5);
        filled(x, 1, TIPS, 5);
        x.make(5);
        filled(x, 5, BROKEN, 5);
        filled(x, 5, DUST, 16);
        ranksAre(x, 4, 1, 3, 0, 2);
    }

    @Says(promise = 16, value = RANKED)
    private static void p16OfSeveralTheOneWithLessDamp() {
        TeaChests x = stocked();
        x.setHumidity(9);
        // After 20 hours, 10 pounds of tips are worth 20, and so are 10 of broken without damp.
        filled(x, 1, TIPS, 10);
        x.pass(20);
        filled(x, 1, BROKEN, 10);
        ranksAre(x, 1, 0);
        filled(x, 2, DUST, 20);
        ranksAre(x, 1, 2, 0);
        x.setHumidity(0);
        filled(x, 1, DUST, 1);
        ranksAre(x, 1, 2, 0, 3);
    }

    @Says(promise = 16, value = RANKED)
    private static void p16AndThenTheLowest() {
        TeaChests x = stocked();
        for (int i = 0; i < 20; i++) {
            filled(x, 1, i % 2 == 0 ? DUST : BROKEN, i % 2 == 0 ? 4 : 2);
        }
        ranksAre(x, 0, 1, 2, 3, 4, 5, 6, 7, 8, 9, 10, 11, 12, 13, 14, 15, 16, 17, 18, 19);
    }

    @Says(promise = 16, value = RANKED)
    private static void p16NotThoseThatAreGone() {
        TeaChests x = everywhere();
        x.make(1);
        ranksAre(x, 1, 0, 2, 4);
        x.sail();
        ranksAre(x, 1, 0, 4);
        x.undo();
        ranksAre(x, 1, 0, 2, 4);
    }

    @Says(promise = 16, value = "Throws `NoSuchElementException` if there is no such place")
    private static void p16NoSuchPlace() {
        TeaChests none = new TeaChests();
        thrown(NONE, none, () -> none.ranked(0));
        TeaChests x = everywhere();
        due(2, () -> x.ranked(2));
        outside(NONE, x, 0, 2, x::ranked);
        thrown(NONE, x, () -> x.ranked(19));
        while (x.account(8) < 20) {
            x.make(1);
        }
        due(19, () -> x.ranked(18));
        thrown(NONE, x, () -> x.ranked(19));
        thrown(NONE, x, () -> x.ranked(20));
        TeaChests y = stocked();
        gone(y, 1, DUST, 1);
        thrown(NONE, y, () -> y.ranked(0));
    }
}
