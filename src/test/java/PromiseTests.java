import java.util.concurrent.Callable;

/** One test or more for each promise of the document: ordinary inputs, edges, and wrong inputs. */
public final class PromiseTests extends Asking {
    public static void main(String[] args) {
        run(PromiseTests.class);
    }

    // ---- promises 1 to 5

    private static void promise1NewObject() {
        TeaChests x = new TeaChests();
        int[] accounts = {0, 0, 0, 0, 0, 0, 10, 20, 0, 0, 0, 0, 12, 0, 0, 4, 0, 0};
        for (int what = 0; what < accounts.length; what++) {
            int asking = what;
            due(accounts[what], () -> x.account(asking));
        }
        for (int garden = 0; garden < 6; garden++) {
            for (int kind = 0; kind < 3; kind++) {
                int g = garden;
                int k = kind;
                due(0, () -> x.leaves(g, k));
            }
        }
        due(INDEX, () -> x.chest(0, 0));
        due(NONE, () -> x.reason(false));
        due(NONE, () -> x.reason(true));
        due(STATE, x::undo);
        due(STATE, x::restore);
        due(true, x::isWell);
        due(6, () -> x.height(0));
        TeaChests other = new TeaChests();
        other.bring(0, 0, 5);
        due(0, () -> x.leaves(0, 0));
    }

    private static void promise2Bring() {
        TeaChests x = new TeaChests();
        due(30, () -> x.bring(3, 2, 30));
        due(31, () -> x.bring(3, 2, 1));
        due(500, () -> x.bring(3, 1, 500));
        due(7, () -> x.bring(0, 0, 7));
        due(9, () -> x.bring(5, 2, 9));
        refused(x, 2, 500, () -> x.bring(3, 1, 1));
        refused(x, 2, 31, () -> x.bring(3, 2, 470));
        due(500, () -> x.bring(3, 2, 469));
        due(1016, () -> x.account(1));
        due(1016, () -> x.account(5));
        due(6, () -> x.account(17));
        due(INDEX, () -> x.bring(6, 0, 1));
        due(INDEX, () -> x.bring(-1, 0, 1));
        due(INDEX, () -> x.bring(0, 3, 1));
        due(INDEX, () -> x.bring(0, -1, 1));
        due(INDEX, () -> x.bring(Integer.MAX_VALUE, Integer.MIN_VALUE, 0));
        due(INDEX, () -> x.bring(6, 0, 501));
        due(ARGUMENT, () -> x.bring(3, 1, 501));
        due(ARGUMENT, () -> x.bring(3, 1, 0));
        due(ARGUMENT, () -> x.bring(0, 0, -1));
        due(ARGUMENT, () -> x.bring(0, 0, Integer.MAX_VALUE));
        due(31, () -> x.reason(true));
        due(7, () -> x.leaves(0, 0));
    }

    private static void promise3Leaves() {
        TeaChests x = new TeaChests();
        for (int garden = 0; garden < 6; garden++) {
            for (int kind = 0; kind < 3; kind++) {
                x.bring(garden, kind, 10 * garden + kind + 1);
            }
        }
        for (int garden = 0; garden < 6; garden++) {
            for (int kind = 0; kind < 3; kind++) {
                int g = garden;
                int k = kind;
                due(10 * garden + kind + 1, () -> x.leaves(g, k));
            }
        }
        due(INDEX, () -> x.leaves(6, 0));
        due(INDEX, () -> x.leaves(-1, 0));
        due(INDEX, () -> x.leaves(0, 3));
        due(INDEX, () -> x.leaves(0, -1));
        due(INDEX, () -> x.leaves(Integer.MIN_VALUE, 2));
        due(INDEX, () -> x.leaves(1, Integer.MAX_VALUE));
    }

    private static void promise4BestGarden() {
        TeaChests x = new TeaChests();
        due(0, x::bestGarden);
        x.bring(5, 0, 10);
        due(5, x::bestGarden);
        x.bring(2, 1, 10);
        due(2, x::bestGarden);
        x.bring(3, 0, 9);
        x.bring(3, 2, 1);
        due(3, x::bestGarden);
        x.bring(4, 1, 9);
        x.bring(4, 2, 1);
        due(3, x::bestGarden);
        x.bring(5, 1, 1);
        due(5, x::bestGarden);
        x.make(1);
        x.fill(0, 5, 0, 2);
        due(3, x::bestGarden);
        x.undo();
        due(5, x::bestGarden);
        x.bring(1, 0, 12);
        due(1, x::bestGarden);
        x.bring(0, 1, 12);
        due(0, x::bestGarden);
    }

    private static void promise5Buy() {
        TeaChests x = new TeaChests();
        due(11, () -> x.buy(false, 1));
        due(21, () -> x.buy(true, 1));
        due(110, () -> x.buy(false, 99));
        due(199, () -> x.buy(false, 89));
        due(200, () -> x.buy(false, 2));
        due(200, () -> x.buy(false, 99));
        due(6, () -> x.account(17));
        due(120, () -> x.buy(true, 99));
        due(200, () -> x.buy(true, 80));
        due(200, () -> x.buy(true, 1));
        due(200, () -> x.account(6));
        due(200, () -> x.account(7));
        due(ARGUMENT, () -> x.buy(true, 100));
        due(ARGUMENT, () -> x.buy(false, 100));
        due(ARGUMENT, () -> x.buy(true, 0));
        due(ARGUMENT, () -> x.buy(false, -1));
        due(ARGUMENT, () -> x.buy(false, Integer.MAX_VALUE));
        due(NONE, () -> x.reason(false));
    }

    // ---- promises 6 to 16

    private static void promise6Make() {
        TeaChests x = new TeaChests();
        due(ARGUMENT, () -> x.make(0));
        due(ARGUMENT, () -> x.make(6));
        due(ARGUMENT, () -> x.make(Integer.MIN_VALUE));
        for (int number = 0; number < 20; number++) {
            int size = 1 + number % 5;
            due(number, () -> x.make(size));
        }
        due(5, () -> x.chest(19, 0));
        due(1, () -> x.chest(5, 0));
        refused(x, 1, 20, () -> x.make(1));
        due(ARGUMENT, () -> x.make(6));
        due(20, () -> x.account(8));
        due(7, x::undo);
        due(INDEX, () -> x.chest(19, 0));
        due(19, () -> x.make(2));
        due(2, () -> x.chest(19, 0));
        int[] first = {1, -1, -1, 0, 0, 0, 0, 0, 0, 0};
        for (int what = 0; what < first.length; what++) {
            int asking = what;
            due(first[what], () -> x.chest(0, asking));
        }
    }

    private static void promise7Line() {
        TeaChests x = new TeaChests();
        x.bring(1, 0, 100);
        x.make(2);
        x.make(4);
        x.make(3);
        due(6, () -> x.line(0));
        due(1, () -> x.chest(0, 4));
        refused(x, 5, 2, () -> x.line(0));
        refused(x, 6, 6, () -> x.line(1));
        due(0, () -> x.chest(1, 4));
        due(0, () -> x.line(2));
        refused(x, 6, 0, () -> x.line(1));
        refused(x, 5, 3, () -> x.line(2));
        x.fill(1, 1, 0, 5);
        x.screw(1, 3);
        refused(x, 4, 3, () -> x.line(1));
        x.unscrew(1);
        x.label(1);
        x.buy(false, 9);
        due(1, () -> x.line(1));
        due(8, () -> x.chest(1, 9));
        due(5, () -> x.chest(1, 3));
        x.fill(0, 1, 0, 5);
        x.screw(0, 4);
        refused(x, 4, 4, () -> x.line(0));
        x.label(0);
        x.toQuay(0);
        refused(x, 3, 1, () -> x.line(0));
        x.load(0);
        refused(x, 3, 2, () -> x.line(0));
        x.sail();
        refused(x, 3, 3, () -> x.line(0));
        due(INDEX, () -> x.line(3));
        due(INDEX, () -> x.line(-1));
        due(INDEX, () -> x.line(20));
        due(INDEX, () -> x.line(Integer.MAX_VALUE));
    }

    private static void promise8Fill() {
        TeaChests x = new TeaChests();
        x.bring(3, 2, 20);
        x.bring(3, 1, 500);
        x.bring(4, 2, 60);
        x.make(2);
        x.make(5);
        due(5, () -> x.fill(0, 3, 2, 15));
        due(5, () -> x.leaves(3, 2));
        due(3, () -> x.chest(0, 1));
        due(2, () -> x.chest(0, 2));
        due(15, () -> x.chest(0, 3));
        refused(x, 7, 32, () -> x.fill(0, 3, 1, 1));
        refused(x, 7, 32, () -> x.fill(0, 4, 2, 50));
        refused(x, 8, 5, () -> x.fill(0, 3, 2, 6));
        refused(x, 8, 5, () -> x.fill(0, 3, 2, 50));
        due(0, () -> x.fill(0, 3, 2, 5));
        refused(x, 8, 0, () -> x.fill(0, 3, 2, 1));
        refused(x, 9, 0, () -> x.fill(1, 3, 2, 1));
        refused(x, 9, 0, () -> x.fill(1, 0, 0, 50));
        due(0, () -> x.fill(1, 4, 2, 50));
        x.empty(1);
        x.fill(1, 4, 2, 40);
        refused(x, 8, 10, () -> x.fill(1, 4, 2, 21));
        x.bring(5, 0, 3);
        x.make(1);
        refused(x, 9, 3, () -> x.fill(2, 5, 0, 4));
        due(7, () -> x.fill(2, 5, 0, 3));
        x.label(2);
        x.bring(5, 0, 3);
        due(4, () -> x.fill(2, 5, 0, 3));
        due(0, () -> x.chest(2, 9));
        x.screw(2, 2);
        refused(x, 4, 2, () -> x.fill(2, 3, 1, 50));
        due(INDEX, () -> x.fill(3, 0, 0, 51));
        due(INDEX, () -> x.fill(-1, 0, 0, 1));
        due(INDEX, () -> x.fill(0, 6, 0, 0));
        due(INDEX, () -> x.fill(0, 0, 3, 1));
        due(INDEX, () -> x.fill(0, -1, 0, 1));
        due(INDEX, () -> x.fill(0, 0, -1, 1));
        due(ARGUMENT, () -> x.fill(0, 0, 0, 51));
        due(ARGUMENT, () -> x.fill(0, 0, 0, 0));
        due(ARGUMENT, () -> x.fill(2, 3, 1, Integer.MIN_VALUE));

        TeaChests y = stocked();
        int quay = onQuay(y, 1, 0, 1);
        refused(y, 3, 1, () -> y.fill(quay, 1, 2, 50));
        int ship = onShip(y, 1, 0, 1);
        refused(y, 3, 2, () -> y.fill(ship, 1, 2, 50));
        y.sail();
        refused(y, 3, 3, () -> y.fill(ship, 1, 2, 50));
        int damp = y.make(1);
        y.fill(damp, 1, 0, 1);
        y.setHumidity(9);
        y.pass(3);
        y.fill(damp, 1, 0, 9);
        due(3, () -> y.chest(damp, 6));
        due(0, () -> y.chest(damp, 4));
    }

    private static void promise9Empty() {
        TeaChests x = new TeaChests();
        x.bring(2, 1, 500);
        int chest = x.make(4);
        refused(x, 10, 0, () -> x.empty(chest));
        x.make(1);
        refused(x, 10, 1, () -> x.empty(1));
        x.line(chest);
        x.fill(chest, 2, 1, 40);
        x.setHumidity(5);
        x.pass(2);
        x.label(chest);
        due(16, () -> x.chest(chest, 9));
        x.bring(2, 1, 30);
        due(40, () -> x.empty(chest));
        due(500, () -> x.leaves(2, 1));
        due(30, () -> x.account(4));
        due(true, x::isWell);
        due(-1, () -> x.chest(chest, 1));
        due(-1, () -> x.chest(chest, 2));
        due(0, () -> x.chest(chest, 3));
        due(1, () -> x.chest(chest, 4));
        due(0, () -> x.chest(chest, 6));
        due(0, () -> x.chest(chest, 9));
        x.bring(0, 0, 7);
        x.fill(chest, 0, 0, 7);
        due(0, () -> x.chest(chest, 6));
        x.screw(chest, 1);
        refused(x, 4, 1, () -> x.empty(chest));
        x.unscrew(chest);
        due(7, () -> x.empty(chest));
        due(7, () -> x.leaves(0, 0));
        due(30, () -> x.account(4));
        due(INDEX, () -> x.empty(2));
        due(INDEX, () -> x.empty(-1));

        TeaChests y = stocked();
        int quay = onQuay(y, 1, 0, 1);
        refused(y, 3, 1, () -> y.empty(quay));
        int ship = onShip(y, 1, 0, 1);
        refused(y, 3, 2, () -> y.empty(ship));
        y.sail();
        refused(y, 3, 3, () -> y.empty(ship));
    }

    private static void promise10Screw() {
        TeaChests x = new TeaChests();
        x.bring(0, 0, 100);
        for (int size = 1; size <= 5; size++) {
            x.make(size);
        }
        refused(x, 10, 2, () -> x.screw(2, 8));
        for (int chest = 0; chest < 5; chest++) {
            x.fill(chest, 0, 0, 5);
        }
        x.line(1);
        due(false, () -> x.screw(1, 3));
        due(17, () -> x.account(7));
        due(true, () -> x.screw(1, 1));
        due(true, () -> x.screw(1, 4));
        refused(x, 12, 8, () -> x.screw(1, 1));
        due(false, () -> x.screw(0, 5));
        refused(x, 12, 5, () -> x.screw(0, 4));
        due(false, () -> x.screw(2, 5));
        due(2, () -> x.account(7));
        refused(x, 11, 2, () -> x.screw(3, 3));
        refused(x, 11, 2, () -> x.screw(1, 3));
        refused(x, 12, 8, () -> x.screw(1, 2));
        due(false, () -> x.screw(3, 2));
        refused(x, 11, 0, () -> x.screw(3, 1));
        due(0, () -> x.chest(0, 7));
        x.buy(false, 99);
        x.buy(true, 50);
        x.line(4);
        due(false, () -> x.screw(4, 6));
        due(true, () -> x.screw(4, 1));
        due(7, () -> x.chest(4, 5));
        due(INDEX, () -> x.screw(5, 9));
        due(INDEX, () -> x.screw(-1, 1));
        due(ARGUMENT, () -> x.screw(0, 9));
        due(ARGUMENT, () -> x.screw(0, 0));
        due(ARGUMENT, () -> x.screw(0, -3));

        TeaChests y = stocked();
        int quay = onQuay(y, 1, 0, 1);
        refused(y, 3, 1, () -> y.screw(quay, 8));
        int ship = onShip(y, 1, 0, 1);
        refused(y, 3, 2, () -> y.screw(ship, 1));
        y.sail();
        refused(y, 3, 3, () -> y.screw(ship, 1));
    }

    private static void promise11Unscrew() {
        TeaChests x = new TeaChests();
        x.bring(0, 0, 100);
        x.make(1);
        due(0, () -> x.unscrew(0));
        due(3, () -> x.account(17));
        x.fill(0, 0, 0, 5);
        x.line(0);
        x.screw(0, 8);
        x.label(0);
        due(1, () -> x.chest(0, 7));
        due(8, () -> x.unscrew(0));
        due(20, () -> x.account(7));
        due(0, () -> x.chest(0, 5));
        due(0, () -> x.chest(0, 7));
        due(8, () -> x.chest(0, 9));
        x.screw(0, 6);
        x.buy(true, 99);
        x.buy(true, 82);
        due(195, () -> x.account(7));
        due(6, () -> x.unscrew(0));
        due(200, () -> x.account(7));
        due(INDEX, () -> x.unscrew(1));
        due(INDEX, () -> x.unscrew(-1));

        TeaChests y = stocked();
        int quay = onQuay(y, 1, 0, 1);
        refused(y, 3, 1, () -> y.unscrew(quay));
        int ship = onShip(y, 1, 0, 1);
        refused(y, 3, 2, () -> y.unscrew(ship));
        y.sail();
        refused(y, 3, 3, () -> y.unscrew(ship));
    }

    private static void promise12Label() {
        TeaChests x = new TeaChests();
        x.bring(0, 0, 9);
        x.bring(5, 1, 50);
        x.bring(3, 2, 20);
        x.make(1);
        x.make(5);
        x.make(2);
        refused(x, 10, 1, () -> x.label(1));
        x.fill(0, 0, 0, 9);
        x.fill(1, 5, 1, 50);
        x.fill(2, 3, 2, 20);
        due(8, () -> x.label(0));
        due("0.dust 9", () -> labelOf(x, 0));
        due(11, () -> x.label(1));
        due("5.broken 50", () -> labelOf(x, 1));
        due(9, () -> x.label(2));
        due("3.tips 20", () -> labelOf(x, 2));
        x.setHumidity(5);
        x.pass(1);
        due("3.tips 20", () -> labelOf(x, 2));
        x.screw(2, 1);
        due(14, () -> x.label(2));
        due("3.tips 20 damp", () -> labelOf(x, 2));
        x.unscrew(2);
        x.empty(2);
        due("", () -> labelOf(x, 2));
        x.fill(2, 3, 2, 20);
        due(9, () -> x.label(2));
        due("3.tips 20", () -> labelOf(x, 2));
        x.empty(1);
        x.fill(1, 5, 1, 10);
        due("", () -> labelOf(x, 1));
        x.label(1);
        due("5.broken 10", () -> labelOf(x, 1));
        x.fill(1, 5, 1, 1);
        due("", () -> labelOf(x, 1));
        due(INDEX, () -> x.label(3));
        due(INDEX, () -> x.label(-1));

        TeaChests y = stocked();
        int quay = onQuay(y, 1, 0, 1);
        refused(y, 3, 1, () -> y.label(quay));
        int ship = onShip(y, 1, 0, 1);
        refused(y, 3, 2, () -> y.label(ship));
        y.sail();
        refused(y, 3, 3, () -> y.label(ship));
        due("1.dust 1", () -> labelOf(y, ship));
    }

    private static void promise13Labelled() {
        TeaChests x = new TeaChests();
        x.bring(3, 2, 20);
        x.make(2);
        due(NONE, () -> x.labelled(0, 0));
        x.fill(0, 3, 2, 20);
        due(NONE, () -> x.labelled(0, 0));
        x.label(0);
        due('3', () -> x.labelled(0, 0));
        due('.', () -> x.labelled(0, 1));
        due('0', () -> x.labelled(0, 8));
        due(NONE, () -> x.labelled(0, 9));
        due(NONE, () -> x.labelled(0, -1));
        due(NONE, () -> x.labelled(0, Integer.MAX_VALUE));
        due(INDEX, () -> x.labelled(1, 0));
        due(INDEX, () -> x.labelled(-1, -1));
    }

    private static void promise14Chest() {
        TeaChests x = stocked();
        x.setHumidity(9);
        x.make(3);
        x.line(0);
        x.fill(0, 1, 2, 17);
        x.pass(4);
        x.screw(0, 6);
        x.label(0);
        int[] numbers = {3, 1, 2, 17, 1, 6, 4, 1, 0, 14};
        for (int what = 0; what < numbers.length; what++) {
            int asking = what;
            due(numbers[what], () -> x.chest(0, asking));
        }
        x.toQuay(0);
        due(1, () -> x.chest(0, 8));
        x.pass(5);
        x.load(0);
        due(2, () -> x.chest(0, 8));
        x.sail();
        numbers[8] = 3;
        for (int what = 0; what < numbers.length; what++) {
            int asking = what;
            due(numbers[what], () -> x.chest(0, asking));
        }
        due(INDEX, () -> x.chest(1, 10));
        due(INDEX, () -> x.chest(-1, 0));
        due(ARGUMENT, () -> x.chest(0, 10));
        due(ARGUMENT, () -> x.chest(0, -1));
        due(ARGUMENT, () -> x.chest(0, Integer.MIN_VALUE));
    }

    private static void promise15Worth() {
        TeaChests x = stocked();
        x.make(5);
        due(0, () -> x.worth(0));
        x.fill(0, 1, 0, 7);
        due(7, () -> x.worth(0));
        x.make(5);
        x.fill(1, 1, 1, 7);
        due(14, () -> x.worth(1));
        x.make(5);
        x.fill(2, 1, 2, 50);
        due(150, () -> x.worth(2));
        x.setHumidity(5);
        x.pass(2);
        due(7, () -> x.worth(0));
        due(145, () -> x.worth(2));
        x.pass(1);
        due(6, () -> x.worth(0));
        due(13, () -> x.worth(1));
        due(143, () -> x.worth(2));
        x.pass(72);
        due(0, () -> x.worth(0));
        due(7, () -> x.worth(1));
        due(100, () -> x.worth(2));
        int gone = gone(x, 2, 2, 20);
        due(60, () -> x.worth(gone));
        due(INDEX, () -> x.worth(4));
        due(INDEX, () -> x.worth(-1));
    }

    private static void promise16Ranked() {
        TeaChests x = stocked();
        due(NONE, () -> x.ranked(0));
        x.make(1);
        x.make(1);
        due(0, () -> x.ranked(0));
        due(1, () -> x.ranked(1));
        x.fill(1, 1, 0, 6);
        due(1, () -> x.ranked(0));
        x.make(1);
        x.fill(2, 1, 1, 3);
        due(1, () -> x.ranked(0));
        due(2, () -> x.ranked(1));
        due(0, () -> x.ranked(2));
        x.setHumidity(9);
        x.pass(1);
        x.make(1);
        x.fill(3, 1, 1, 3);
        due(3, () -> x.ranked(0));
        due(1, () -> x.ranked(1));
        due(2, () -> x.ranked(2));
        due(0, () -> x.ranked(3));
        due(NONE, () -> x.ranked(4));
        due(NONE, () -> x.ranked(-1));
        due(NONE, () -> x.ranked(Integer.MAX_VALUE));
        x.pass(11);
        int best = onShip(x, 1, 2, 10);
        due(best, () -> x.ranked(0));
        x.sail();
        due(4, () -> x.account(9));
        // Their worths are 5, 5, 3 and 0 by now, with the damps 11, 12, 12 and 0.
        due(3, () -> x.ranked(0));
        due(2, () -> x.ranked(1));
        due(1, () -> x.ranked(2));
        due(0, () -> x.ranked(3));
        due(NONE, () -> x.ranked(4));
    }

    // ---- promises 17 to 23

    private static void promise17ToQuay() {
        TeaChests x = stocked();
        x.make(2);
        refused(x, 10, 0, () -> x.toQuay(0));
        x.fill(0, 1, 0, 20);
        refused(x, 13, 0, () -> x.toQuay(0));
        x.screw(0, 8);
        refused(x, 13, 0, () -> x.toQuay(0));
        x.unscrew(0);
        x.line(0);
        x.screw(0, 3);
        x.label(0);
        refused(x, 13, 0, () -> x.toQuay(0));
        x.screw(0, 1);
        due(1, () -> x.toQuay(0));
        refused(x, 3, 1, () -> x.toQuay(0));
        x.make(1);
        x.line(1);
        x.fill(1, 1, 0, 2);
        x.screw(1, 3);
        refused(x, 14, 1, () -> x.toQuay(1));
        x.label(1);
        due(2, () -> x.toQuay(1));
        x.load(0);
        refused(x, 3, 2, () -> x.toQuay(0));
        int third = ready(x, 1, 0, 1);
        due(2, () -> x.toQuay(third));
        x.sail();
        refused(x, 3, 3, () -> x.toQuay(0));
        due(INDEX, () -> x.toQuay(3));
        due(INDEX, () -> x.toQuay(-1));
    }

    private static void promise18Load() {
        TeaChests x = stocked();
        int[] chests = new int[4];
        for (int i = 0; i < chests.length; i++) {
            chests[i] = onQuay(x, i == 3 ? 2 : 4, 0, 5);
        }
        int house = ready(x, 1, 0, 1);
        refused(x, 15, 0, () -> x.load(house));
        due(8, () -> x.load(chests[0]));
        refused(x, 15, 2, () -> x.load(chests[0]));
        x.pass(4);
        refused(x, 16, 2, () -> x.load(chests[1]));
        refused(x, 15, 0, () -> x.load(house));
        refused(x, 15, 2, () -> x.load(chests[0]));
        x.pass(4);
        refused(x, 16, 2, () -> x.load(chests[1]));
        x.pass(1);
        due(6, () -> x.load(chests[3]));
        due(2, () -> x.load(chests[1]));
        refused(x, 17, 2, () -> x.load(chests[2]));
        x.pass(8);
        refused(x, 16, 1, () -> x.load(chests[2]));
        x.pass(5);
        due(15, x::sail);
        refused(x, 15, 3, () -> x.load(chests[0]));
        due(8, () -> x.load(chests[2]));
        x.toQuay(house);
        due(7, () -> x.load(house));
        due(INDEX, () -> x.load(5));
        due(INDEX, () -> x.load(-1));

        TeaChests y = stocked();
        onShip(y, 5, 0, 1);
        onShip(y, 5, 0, 1);
        due(0, () -> y.load(onQuay(y, 2, 0, 1)));
        int more = onQuay(y, 1, 0, 1);
        refused(y, 17, 0, () -> y.load(more));
    }

    private static void promise19Sail() {
        TeaChests x = stocked();
        refused(x, 18, 0, x::sail);
        int first = onShip(x, 2, 2, 20);
        int second = onShip(x, 1, 0, 7);
        int quay = onQuay(x, 1, 1, 5);
        int house = ready(x, 1, 1, 5);
        x.pass(4);
        refused(x, 16, 2, x::sail);
        due(2, () -> x.chest(first, 8));
        x.pass(5);
        due(67, x::sail);
        due(3, () -> x.chest(first, 8));
        due(3, () -> x.chest(second, 8));
        due(1, () -> x.chest(quay, 8));
        due(0, () -> x.chest(house, 8));
        due(20, () -> x.chest(first, 3));
        due(9, () -> x.chest(first, 9));
        due(67, () -> x.account(14));
        due(27, () -> x.account(3));
        due(1, () -> x.account(13));
        due(12, () -> x.account(12));
        refused(x, 18, 0, x::sail);
        x.load(quay);
        due(10, x::sail);
        due(77, () -> x.account(14));
        due(32, () -> x.account(3));
        due(2, () -> x.account(13));
        x.pass(8);
        // Both reasons apply: the list of the Terms names 16 ahead of 18.
        refused(x, 16, 1, x::sail);
    }

    private static void promise20Cargo() {
        TeaChests x = stocked();
        due(0, x::cargo);
        onQuay(x, 1, 2, 10);
        due(0, x::cargo);
        onShip(x, 1, 2, 10);
        due(30, x::cargo);
        onShip(x, 2, 1, 15);
        due(60, x::cargo);
        x.pass(6);
        due(60, x::cargo);
        x.pass(6);
        due(60, x::sail);
        due(0, x::cargo);
        x.undo();
        due(60, x::cargo);
        x.undo();
        int damp = x.make(1);
        x.fill(damp, 1, 2, 10);
        x.setHumidity(9);
        x.pass(6);
        x.line(damp);
        x.screw(damp, 3);
        x.label(damp);
        x.toQuay(damp);
        x.load(damp);
        due(87, x::cargo);
    }

    private static void promise21And22Height() {
        int[] heights = {6, 5, 4, 3, 2, 1, 0, 1, 2, 3, 4, 5};
        TeaChests x = new TeaChests();
        for (int clock = 0; clock < 30; clock++) {
            for (int hours = 0; hours <= 99; hours++) {
                int ahead = hours;
                int want = heights[(clock + hours) % 12];
                due(want, () -> x.height(ahead));
                due(want, () -> x.heightAgain(ahead));
            }
            x.pass(1);
        }
        for (int wrongHours : new int[] {100, -1, Integer.MAX_VALUE, Integer.MIN_VALUE}) {
            due(ARGUMENT, () -> x.height(wrongHours));
            due(ARGUMENT, () -> x.heightAgain(wrongHours));
        }
        for (int i = 0; i < 480; i++) {
            x.pass(72);
        }
        due(heights[(30 + 5) % 12], () -> x.height(5));
        due(heights[(30 + 5) % 12], () -> x.heightAgain(5));
    }

    private static void promise23ReachedIn() {
        int[] hours = {0, 0, 0, 0, 5, 4, 3, 2, 1, 0, 0, 0, 0};
        TeaChests x = new TeaChests();
        for (int want : hours) {
            due(want, x::reachedIn);
            x.pass(1);
        }
    }

    // ---- promises 24 to 30

    private static void promise24SetHumidity() {
        TeaChests x = new TeaChests();
        due(4, () -> x.setHumidity(0));
        due(0, () -> x.account(15));
        due(0, () -> x.setHumidity(9));
        due(9, () -> x.setHumidity(9));
        due(9, () -> x.account(15));
        due(3, () -> x.account(17));
        due(ARGUMENT, () -> x.setHumidity(10));
        due(ARGUMENT, () -> x.setHumidity(-1));
        due(ARGUMENT, () -> x.setHumidity(Integer.MAX_VALUE));
        due(9, () -> x.account(15));
    }

    private static void promise25Pass() {
        TeaChests x = stocked();
        due(5, () -> x.pass(1));
        due(1, () -> x.account(0));
        due(5, () -> x.pass(72));
        due(73, () -> x.account(0));
        due(ARGUMENT, () -> x.pass(73));
        due(ARGUMENT, () -> x.pass(0));
        due(ARGUMENT, () -> x.pass(-1));
        due(ARGUMENT, () -> x.pass(Integer.MAX_VALUE));
        due(73, () -> x.account(0));
        x.pass(11);
        int open = x.make(1);
        x.fill(open, 1, 0, 1);
        int lined = x.make(1);
        x.fill(lined, 1, 0, 1);
        x.line(lined);
        x.screw(lined, 2);
        int screwed = x.make(1);
        x.fill(screwed, 1, 0, 1);
        x.screw(screwed, 8);
        int tight = ready(x, 1, 0, 1);
        int empty = x.make(1);
        x.setHumidity(4);
        x.pass(3);
        due(0, () -> x.chest(open, 6));
        x.setHumidity(5);
        x.pass(19);
        due(19, () -> x.chest(open, 6));
        due(19, () -> x.chest(lined, 6));
        due(19, () -> x.chest(screwed, 6));
        due(0, () -> x.chest(tight, 6));
        due(0, () -> x.chest(empty, 6));
        x.pass(1);
        due(20, () -> x.chest(open, 6));
        x.pass(1);
        due(20, () -> x.chest(open, 6));
        x.screw(lined, 1);
        x.label(lined);
        x.toQuay(lined);
        due(108, () -> x.account(0));
        due(11, () -> x.load(lined));
        due(0, x::sail);
        x.toQuay(tight);
        x.pass(1);
        due(0, () -> x.chest(tight, 6));
        due(20, () -> x.chest(lined, 6));
    }

    private static void promise26IsWell() {
        TeaChests x = stocked();
        due(true, x::isWell);
        onShip(x, 2, 2, 20);
        onQuay(x, 1, 0, 3);
        due(true, x::isWell);
        x.sail();
        due(true, x::isWell);
        int chest = x.make(5);
        x.fill(chest, 1, 2, 50);
        x.bring(1, 2, 250);
        x.empty(chest);
        due(30, () -> x.account(4));
        due(true, x::isWell);
        x.undo();
        due(true, x::isWell);
    }

    private static void promise27MeanDamp() {
        TeaChests x = stocked();
        due(ARITHMETIC, x::meanDamp);
        x.make(1);
        due(ARITHMETIC, x::meanDamp);
        x.make(1);
        x.make(1);
        x.setHumidity(9);
        x.fill(0, 1, 0, 1);
        due(0.0, x::meanDamp);
        x.pass(1);
        due(1.0, x::meanDamp);
        x.fill(1, 1, 0, 1);
        due(0.5, x::meanDamp);
        x.pass(2);
        due(2.5, x::meanDamp);
        x.pass(9);
        int third = onQuay(x, 1, 2, 3);
        due(23.0 / 3.0, x::meanDamp);
        x.load(third);
        due(23.0 / 3.0, x::meanDamp);
        x.sail();
        due(11.5, x::meanDamp);
        x.empty(0);
        due(11.0, x::meanDamp);
        x.empty(1);
        due(ARITHMETIC, x::meanDamp);
    }

    private static void promise28SailedShare() {
        TeaChests x = new TeaChests();
        due(ARITHMETIC, x::sailedShare);
        x.buy(false, 99);
        x.buy(true, 99);
        x.bring(1, 0, 300);
        due(0.0f, x::sailedShare);
        gone(x, 5, 0, 50);
        due(50.0f / 300.0f, x::sailedShare);
        x.bring(1, 2, 57);
        due(50.0f / 357.0f, x::sailedShare);
        gone(x, 1, 2, 7);
        due(57.0f / 357.0f, x::sailedShare);

        TeaChests y = new TeaChests();
        y.bring(0, 0, 1);
        y.undo();
        due(ARITHMETIC, y::sailedShare);
    }

    private static void promise29Reason() {
        TeaChests x = new TeaChests();
        due(NONE, () -> x.reason(false));
        due(NONE, () -> x.reason(true));
        due(ARGUMENT, () -> x.make(0));
        due(INDEX, () -> x.line(0));
        due(-100, x::perform);
        due(NONE, () -> x.reason(false));
        due(REFUSED, x::sail);
        due(18, () -> x.reason(false));
        due(0, () -> x.reason(true));
        x.make(1);
        due(ARGUMENT, () -> x.make(0));
        due(18, () -> x.reason(false));
        refused(x, 10, 0, () -> x.empty(0));
        x.undo();
        due(10, () -> x.reason(false));
        x.save();
        refused(x, 18, 0, x::sail);
        x.restore();
        due(18, () -> x.reason(false));
    }

    private static void promise30Account() {
        TeaChests x = stocked();
        x.setHumidity(8);
        onShip(x, 4, 1, 40);
        x.sail();
        onShip(x, 3, 2, 30);
        onShip(x, 2, 2, 10);
        onQuay(x, 1, 0, 3);
        int chest = ready(x, 1, 0, 4);
        x.unscrew(chest);
        x.bring(1, 0, 204);
        x.empty(chest);
        x.make(5);
        x.make(5);
        x.fill(chest, 1, 2, 5);
        x.pass(2);
        feed(x, "sail;;");
        int[] accounts = {2, 1015, 48, 40, 1, 1104, 178, 182, 7, 3, 1, 2, 7, 1, 80, 8, 6, 8};
        for (int what = 0; what < accounts.length; what++) {
            int asking = what;
            due(accounts[what], () -> x.account(asking));
        }
        due(ARGUMENT, () -> x.account(18));
        due(ARGUMENT, () -> x.account(-1));
        due(ARGUMENT, () -> x.account(Integer.MAX_VALUE));
    }

    // ---- promises 31 to 35

    private static void promise31Feed() {
        TeaChests x = new TeaChests();
        for (int many = 1; many <= 60; many++) {
            char letter = (char) (many * 1000);
            due(many, () -> x.feed(letter));
            due(many, () -> x.account(16));
        }
        due(STATE, () -> x.feed('a'));
        due(60, () -> x.account(16));
        due(-100, x::perform);
        due(0, () -> x.account(16));
        due(1, () -> x.feed((char) 0));
        due(-100, x::perform);
        due(0, () -> x.account(17));
    }

    private static void syntaxError(int position, String text) {
        TeaChests x = stocked();
        x.make(2);
        String before = picture(x);
        feed(x, text);
        due(-100 - position, x::perform);
        due(0, () -> x.account(16));
        due(before, () -> picture(x));
        due(NONE, () -> x.reason(false));
        due(8, () -> x.account(17));
    }

    private static void promise32PerformSyntax() {
        syntaxError(0, "");
        syntaxError(0, ";");
        syntaxError(0, " sail");
        syntaxError(0, "Sail");
        syntaxError(0, "x");
        syntaxError(0, "0");
        for (String word : new String[] {"line ", "fill ", "screw ", "label ", "quay ", "load ", "hours "}) {
            for (int end = 1; end <= word.length(); end++) {
                syntaxError(end, word.substring(0, end));
                syntaxError(end, word.substring(0, end) + "\u00e9");
                syntaxError(end, word.substring(0, end) + (char) 0);
            }
        }
        syntaxError(2, "sal");
        syntaxError(3, "sai");
        syntaxError(1, "sx");
        syntaxError(1, "l");
        syntaxError(1, "lx");
        syntaxError(2, "laxbel 0");
        syntaxError(2, "lobd 0");
        syntaxError(4, "sail ");
        syntaxError(4, "sail0");
        syntaxError(5, "sail;");
        syntaxError(5, "sail; sail");
        syntaxError(5, "sail;;sail");
        syntaxError(5, "line  0");
        syntaxError(6, "line 0 ");
        syntaxError(7, "line 12 ");
        syntaxError(7, "line 123");
        syntaxError(7, "line 0;");
        syntaxError(7, "line 0;x");
        syntaxError(5, "line -1");
        syntaxError(5, "line /");
        syntaxError(5, "line :");
        syntaxError(6, "fill 0");
        syntaxError(6, "fill 0.");
        syntaxError(7, "fill 0 ");
        syntaxError(8, "fill 0 1");
        syntaxError(8, "fill 0 12.dust 1");
        syntaxError(9, "fill 0 1.");
        syntaxError(9, "fill 0 1.x");
        syntaxError(9, "fill 0 1. 1");
        syntaxError(11, "fill 0 1.du 1");
        syntaxError(10, "fill 0 1.d");
        syntaxError(10, "fill 0 1.dx");
        syntaxError(12, "fill 0 1.dusk 1");
        syntaxError(12, "fill 0 1.bro");
        syntaxError(14, "fill 0 1.brokem 1");
        syntaxError(11, "fill 0 1.tixs 1");
        syntaxError(13, "fill 0 1.dust");
        syntaxError(13, "fill 0 1.dust1");
        syntaxError(14, "fill 0 1.dust ");
        syntaxError(16, "fill 0 1.dust 123");
        syntaxError(7, "fill 10;");
        syntaxError(7, "screw 0");
        syntaxError(8, "screw 0 ");
        syntaxError(9, "screw 0 12");
        syntaxError(8, "screw 0 x");
        syntaxError(8, "hours 123");
        syntaxError(7, "hours 1.");
        syntaxError(13, "line 0;load 0x");
        syntaxError(55, "sail;sail;sail;sail;sail;sail;sail;sail;sail;sail;sail;saix;".substring(0, 55));
        syntaxError(60, "sail;sail;sail;sail;sail;sail;sail;sail;sail;sail;sail;sail;");
    }

    /** What an earlier, longer text has left behind must not show in a later one. */
    private static void promise32PerformSyntaxAgain() {
        TeaChests x = new TeaChests();
        String sails = "sail;sail;sail;sail;sail;sail;sail;sail;sail;";
        due(-160, () -> perform(x, sails + "hours 12;fill 0"));
        due(-160, () -> perform(x, sails + "sail;sail;line "));
        due(-160, () -> perform(x, sails + "load 0;line 12;"));
        due(-158, () -> perform(x, sails + "sail;sail;lin"));
        due(-115, () -> perform(x, "fill 0 1.dust 1x"));
        due(-113, () -> perform(x, "fill 0 1.dust"));
        due(-112, () -> perform(x, "fill 0 1.dus"));
        due(-109, () -> perform(x, "fill 0 1.x"));
        due(-108, () -> perform(x, "fill 0 1"));
        due(-106, () -> perform(x, "fill 0"));
        due(-105, () -> perform(x, "line "));
        due(-100, () -> perform(x, "x"));
        due(-100, () -> perform(x, ""));
        due(1, () -> perform(x, "hours 1"));
        due(1, () -> x.account(0));
    }

    private static void promise32PerformCarriesOut() {
        TeaChests x = stocked();
        x.make(1);
        x.make(2);
        due(3, () -> perform(x, "line 0;fill 0 1.broken 9;screw 0 3"));
        due(1, () -> x.chest(0, 7));
        due(9, () -> x.chest(0, 3));
        due(1, () -> x.chest(0, 2));
        due(291, () -> x.leaves(1, 1));
        due(0, () -> x.account(16));
        due(8, () -> x.account(17));
        due(4, () -> perform(x, "label 0;quay 0;load 0;sail"));
        due("1.broken 9", () -> labelOf(x, 0));
        due(18, () -> x.account(14));
        due(1, () -> perform(x, "hours 72"));
        due(72, () -> x.account(0));
        due(1, () -> perform(x, "hours 5"));
        due(77, () -> x.account(0));
        due(1, () -> perform(x, "hours 01"));
        due(78, () -> x.account(0));
        due(2, () -> perform(x, "fill 1 1.dust 5;fill 01 1.dust 05"));
        due(10, () -> x.chest(1, 3));
        due(1, () -> perform(x, "fill 1 1.dust 10"));
        due(0, () -> x.chest(1, 2));
        x.make(5);
        due(1, () -> perform(x, "fill 2 1.tips 50"));
        due(2, () -> x.chest(2, 2));
        for (int i = 3; i < 20; i++) {
            x.make(1);
        }
        due(2, () -> perform(x, "line 19;line 9"));
        due(1, () -> x.chest(19, 4));
        due(1, () -> x.chest(9, 4));
        x.setHumidity(5);
        due(2, () -> perform(x, "hours 3;label 2"));
        due("1.tips 50 damp", () -> labelOf(x, 2));
        x.bring(0, 1, 9);
        due(2, () -> perform(x, "fill 19 0.broken 1;screw 19 1"));
        due(0, () -> x.chest(19, 1));
        due(1, () -> x.chest(19, 5));
    }

    /** The text is correct, but this command of it cannot be carried out. */
    private static void cannot(int command, String text) {
        TeaChests x = stocked();
        ready(x, 2, 0, 5);
        onQuay(x, 5, 1, 5);
        onShip(x, 5, 2, 5);
        onShip(x, 5, 2, 5);
        x.make(1);
        x.setHumidity(9);
        String before = picture(x);
        int changes = x.account(17);
        feed(x, text);
        refused(x, 19, command, x::perform);
        due(0, () -> x.account(16));
        due(before, () -> picture(x));
        due(changes, () -> x.account(17));
        x.undo();
        due(4, () -> x.account(15));
    }

    private static void promise32PerformAllOrNone() {
        cannot(0, "line 0");
        cannot(0, "line 5");
        cannot(0, "line 20");
        cannot(0, "line 99");
        cannot(0, "fill 5 1.dust 1");
        cannot(0, "fill 4 6.dust 1");
        cannot(0, "fill 4 9.tips 1");
        cannot(0, "fill 4 1.dust 0");
        cannot(0, "fill 4 1.dust 51");
        cannot(0, "fill 4 1.dust 11");
        cannot(0, "fill 4 2.dust 1");
        cannot(0, "screw 0 0");
        cannot(0, "screw 0 9");
        cannot(0, "screw 0 5");
        cannot(0, "screw 4 1");
        cannot(0, "screw 5 1");
        cannot(0, "label 1");
        cannot(0, "label 4");
        cannot(0, "quay 1");
        cannot(0, "quay 4");
        cannot(0, "load 0");
        cannot(0, "load 1");
        cannot(0, "load 64");
        cannot(0, "hours 0");
        cannot(0, "hours 00");
        cannot(0, "hours 73");
        cannot(0, "hours 99");
        cannot(1, "sail;sail");
        cannot(2, "hours 9;sail;sail;sail");
        cannot(1, "hours 4;sail");
        cannot(2, "line 4;fill 4 1.dust 10;line 4;sail");
        cannot(5, "sail;load 1;sail;quay 0;load 0;load 0");
        cannot(1, "fill 4 1.tips 1;fill 4 1.dust 1");
        cannot(3, "hours 72;hours 72;hours 72;hours 73");
    }

    private static void promise33Undo() {
        TeaChests x = new TeaChests();
        due(STATE, x::undo);
        for (int i = 1; i <= 10; i++) {
            x.bring(0, 0, 1);
            due(Math.min(8, i), () -> x.account(17));
        }
        for (int left = 7; left >= 0; left--) {
            int want = left;
            due(want, x::undo);
            due(2 + want, () -> x.leaves(0, 0));
            due(2 + want, () -> x.account(5));
        }
        due(STATE, x::undo);
        due(2, () -> x.leaves(0, 0));
        x.bring(0, 0, 5);
        due(REFUSED, () -> x.bring(0, 0, 500));
        due(REFUSED, x::sail);
        due(1, () -> x.account(17));
        feed(x, "hours");
        due(0, x::undo);
        due(5, () -> x.account(16));
        due(18, () -> x.reason(false));
        due(-105, x::perform);
        x.buy(true, 3);
        x.bring(0, 0, 1);
        due(1, x::undo);
        x.bring(0, 1, 1);
        due(1, x::undo);
        due(0, x::undo);
        due(20, () -> x.account(7));
        due(0, () -> x.leaves(0, 1));
        due(STATE, x::undo);
    }

    /** The change can be taken back, and all is then as it was before. */
    private static void undone(TeaChests x, Callable<?> change) {
        String before = picture(x);
        int changes = x.account(17);
        answer(change);
        due(Math.min(8, changes + 1), () -> x.account(17));
        String after = picture(x);
        due(Math.min(8, changes + 1) - 1, x::undo);
        due(before, () -> picture(x));
        answer(change);
        due(after, () -> picture(x));
    }

    private static void promise33UndoOfEachChange() {
        TeaChests x = stocked();
        undone(x, () -> x.bring(2, 2, 7));
        undone(x, () -> x.buy(true, 1));
        undone(x, () -> x.buy(false, 99));
        undone(x, () -> x.make(2));
        undone(x, () -> x.setHumidity(7));
        undone(x, () -> x.setHumidity(7));
        undone(x, () -> x.line(0));
        undone(x, () -> x.fill(0, 1, 2, 12));
        undone(x, () -> x.pass(24));
        undone(x, () -> x.label(0));
        undone(x, () -> x.label(0));
        undone(x, () -> x.fill(0, 1, 2, 1));
        undone(x, () -> x.screw(0, 5));
        undone(x, () -> x.unscrew(0));
        undone(x, () -> x.unscrew(0));
        undone(x, () -> x.empty(0));
        undone(x, () -> perform(x, "fill 0 1.tips 9;label 0;screw 0 6;hours 12"));
        undone(x, () -> x.toQuay(0));
        undone(x, () -> x.load(0));
        undone(x, x::sail);
        due(1, () -> x.account(13));
    }

    private static void promise34And35SaveAndRestore() {
        TeaChests x = stocked();
        due(STATE, x::restore);
        x.setHumidity(8);
        x.pass(3);
        int chest = ready(x, 2, 2, 15);
        int open = x.make(1);
        x.fill(open, 1, 0, 9);
        String first = picture(x);
        due(3, x::save);
        due(8, () -> x.account(17));
        x.toQuay(chest);
        x.load(chest);
        x.sail();
        x.pass(30);
        x.bring(4, 0, 100);
        x.label(open);
        due(REFUSED, x::sail);
        int reason = x.reason(false);
        feed(x, "sail");
        due(3, x::restore);
        due(first, () -> picture(x));
        due(0, () -> x.account(17));
        due(STATE, x::undo);
        due(4, () -> x.account(16));
        due(reason, () -> x.reason(false));
        x.pass(1);
        x.make(3);
        due(1, x::undo);
        due(3, x::restore);
        due(first, () -> picture(x));
        x.pass(2);
        String second = picture(x);
        due(5, x::save);
        x.pass(1);
        x.undo();
        x.undo();
        due(first, () -> picture(x));
        due(5, x::restore);
        due(second, () -> picture(x));

        TeaChests z = new TeaChests();
        z.make(2);
        z.save();
        z.undo();
        z.make(5);
        due(0, z::restore);
        due(2, () -> z.chest(0, 0));

        TeaChests y = new TeaChests();
        due(0, y::save);
        y.bring(0, 0, 1);
        due(0, y::restore);
        due(0, () -> y.leaves(0, 0));
    }
}
