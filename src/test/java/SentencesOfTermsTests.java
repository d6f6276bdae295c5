import java.util.regex.Matcher;
import java.util.regex.Pattern;

/** A test of its own for each sentence of the section "Terms" that names a boundary case. */
public final class SentencesOfTermsTests extends Asking {
    public static void main(String[] args) {
        run(SentencesOfTermsTests.class);
    }

    // ---- exceptions and error codes

    /** Wrong arguments of every kind, put to a house in which much has gone on. */
    private static void askWrongly(TeaChests x) {
        for (int wrong : new int[] {-1, 99, Integer.MIN_VALUE, Integer.MAX_VALUE}) {
            thrown(INDEX, x, () -> x.bring(wrong, 0, 1));
            thrown(INDEX, x, () -> x.bring(0, wrong, 1));
            thrown(INDEX, x, () -> x.leaves(wrong, 0));
            thrown(INDEX, x, () -> x.leaves(0, wrong));
            thrown(INDEX, x, () -> x.line(wrong));
            thrown(INDEX, x, () -> x.fill(wrong, 0, 0, 1));
            thrown(INDEX, x, () -> x.fill(0, wrong, 0, 1));
            thrown(INDEX, x, () -> x.fill(0, 0, wrong, 1));
            thrown(INDEX, x, () -> x.empty(wrong));
            thrown(INDEX, x, () -> x.screw(wrong, 1));
            thrown(INDEX, x, () -> x.unscrew(wrong));
            thrown(INDEX, x, () -> x.label(wrong));
            thrown(INDEX, x, () -> x.labelled(wrong, 0));
            thrown(INDEX, x, () -> x.chest(wrong, 0));
            thrown(INDEX, x, () -> x.worth(wrong));
            thrown(INDEX, x, () -> x.toQuay(wrong));
            thrown(INDEX, x, () -> x.load(wrong));
            thrown(NONE, x, () -> x.labelled(0, wrong));
            thrown(NONE, x, () -> x.ranked(wrong));
        }
        for (int wrong : new int[] {-1, 501, Integer.MIN_VALUE, Integer.MAX_VALUE}) {
            thrown(ARGUMENT, x, () -> x.bring(0, 0, wrong));
            thrown(ARGUMENT, x, () -> x.buy(true, wrong));
            thrown(ARGUMENT, x, () -> x.buy(false, wrong));
            thrown(ARGUMENT, x, () -> x.make(wrong));
            thrown(ARGUMENT, x, () -> x.fill(0, 0, 0, wrong));
            thrown(ARGUMENT, x, () -> x.screw(0, wrong));
            thrown(ARGUMENT, x, () -> x.chest(0, wrong));
            thrown(ARGUMENT, x, () -> x.height(wrong));
            thrown(ARGUMENT, x, () -> x.heightAgain(wrong));
            thrown(ARGUMENT, x, () -> x.setHumidity(wrong));
            thrown(ARGUMENT, x, () -> x.pass(wrong));
            thrown(ARGUMENT, x, () -> x.account(wrong));
        }
    }

    @Says("A method that throws an exception or returns an error code leaves the state unchanged, unless its description says otherwise.")
    private static void wrongArgumentsChangeNothing() {
        TeaChests x = everywhere();
        x.setHumidity(7);
        int open = filled(x, 3, TIPS, 12);
        x.pass(2);
        refused(x, 10, x.make(1), () -> x.label(5));
        feed(x, "hours");
        x.save();
        x.label(open);
        String saved = whole(x);
        askWrongly(x);
        due(saved, () -> whole(x));
        // Neither have the change that can be taken back and the snapshot changed.
        due("1.tips 12 damp", () -> labelOf(x, open));
        due(7, x::undo);
        due("", () -> labelOf(x, open));
        x.label(open);
        x.restore();
        due("", () -> labelOf(x, open));
    }

    @Says("A method that throws an exception or returns an error code leaves the state unchanged, unless its description says otherwise.")
    private static void refusedCallsChangeNothing() {
        TeaChests x = everywhere();
        x.bring(0, DUST, 499);
        int open = filled(x, 1, DUST, 9);
        feed(x, "load");
        refused(x, 2, 499, () -> x.bring(0, DUST, 2));
        refused(x, 3, 1, () -> x.line(1));
        refused(x, 7, 10, () -> x.fill(open, 1, TIPS, 1));
        refused(x, 3, 2, () -> x.empty(2));
        refused(x, 3, 3, () -> x.screw(3, 1));
        refused(x, 3, 1, () -> x.unscrew(1));
        refused(x, 3, 2, () -> x.label(2));
        refused(x, 13, open, () -> x.toQuay(open));
        refused(x, 15, 0, () -> x.load(open));
        x.pass(5);
        refused(x, 16, 1, x::sail);
        for (int i = x.account(8); i < 20; i++) {
            x.make(1);
        }
        refused(x, 1, 20, () -> x.make(1));
        due(4, () -> x.account(16));
        // The refused calls are no changes: what is taken back is the making of the last chest.
        due(7, x::undo);
        due(19, () -> x.account(8));
    }

    @Says("A method that throws an exception or returns an error code leaves the state unchanged, unless its description says otherwise.")
    private static void syntaxErrorsChangeNothingButTheBuffer() {
        TeaChests x = everywhere();
        refused(x, 3, 1, () -> x.line(1));
        String before = whole(x);
        due(-107, () -> perform(x, "hours 1x"));
        due(before, () -> whole(x));
        due(-108, () -> perform(x, "hours 1;"));
        due(before, () -> whole(x));
        due(7, x::undo);
    }

    @Says("A method that throws an exception or returns an error code leaves the state unchanged, unless its description says otherwise.")
    private static void wrongStatesChangeNothing() {
        TeaChests x = new TeaChests();
        for (int i = 0; i < 60; i++) {
            x.feed('x');
        }
        thrown(STATE, x, () -> x.feed('y'));
        thrown(STATE, x, x::undo);
        thrown(STATE, x, x::restore);
        thrown(NONE, x, () -> x.reason(false));
        thrown(NONE, x, () -> x.ranked(0));
        thrown(ARITHMETIC, x, x::meanDamp);
        thrown(ARITHMETIC, x, x::sailedShare);
    }

    @Says("If several exceptions apply, the one named first is thrown.")
    private static void theExceptionNamedFirstIsThrown() {
        TeaChests x = stocked();
        int open = filled(x, 1, DUST, 1);
        thrown(INDEX, x, () -> x.bring(6, 0, 0));
        thrown(INDEX, x, () -> x.bring(0, 3, 501));
        thrown(ARGUMENT, x, () -> x.bring(1, DUST, 501));
        thrown(INDEX, x, () -> x.fill(1, 0, 0, 0));
        thrown(INDEX, x, () -> x.fill(open, 6, 0, 51));
        thrown(INDEX, x, () -> x.fill(open, 0, 3, 51));
        thrown(ARGUMENT, x, () -> x.fill(open, 2, TIPS, 51));
        thrown(INDEX, x, () -> x.screw(1, 9));
        thrown(INDEX, x, () -> x.labelled(1, -1));
        thrown(INDEX, x, () -> x.chest(1, 10));
        x.empty(open);
        thrown(ARGUMENT, x, () -> x.screw(open, 9));
        for (int i = x.account(8); i < 20; i++) {
            x.make(1);
        }
        thrown(ARGUMENT, x, () -> x.make(6));
        refused(x, 1, 20, () -> x.make(5));
    }

    @Says("Divisions of integers are rounded down.")
    private static void divisionsAreRoundedDown() {
        TeaChests x = stocked();
        x.setHumidity(5);
        int chest = filled(x, 1, DUST, 3);
        // 3 * 6 / 20 is 0.9, 3 * 7 / 20 is 1.05, and 3 * 19 / 20 is 2.85.
        x.pass(6);
        due(3, () -> x.worth(chest));
        x.pass(1);
        due(2, () -> x.worth(chest));
        x.pass(12);
        due(1, () -> x.worth(chest));
    }

    // ---- leaves, lead and screws

    @Says("There are 6 gardens, numbered from 0, and 3 kinds of leaves: 0 dust, 1 broken and 2 tips.")
    private static void sixGardensAndThreeKinds() {
        TeaChests x = new TeaChests();
        String[] words = {"dust", "broken", "tips"};
        int chest = x.make(1);
        for (int garden = 0; garden < 6; garden++) {
            for (int kind = 0; kind < 3; kind++) {
                int g = garden;
                int k = kind;
                due(5, () -> x.bring(g, k, 5));
                x.fill(chest, garden, kind, 5);
                x.label(chest);
                due(garden + "." + words[kind] + " 5", () -> labelOf(x, chest));
                x.empty(chest);
            }
        }
        outside(INDEX, x, 0, 5, garden -> x.bring(garden, DUST, 1));
        outside(INDEX, x, 0, 2, kind -> x.bring(0, kind, 1));
        outside(INDEX, x, 0, 5, garden -> x.leaves(garden, TIPS));
        outside(INDEX, x, 0, 2, kind -> x.leaves(5, kind));
    }

    @Says("Of each kind of each garden there are from 0 to 500 pounds in the store, at first 0.")
    private static void from0To500PoundsOfEach() {
        TeaChests x = new TeaChests();
        for (int garden = 0; garden < 6; garden++) {
            for (int kind = 0; kind < 3; kind++) {
                int g = garden;
                int k = kind;
                due(0, () -> x.leaves(g, k));
                due(1, () -> x.bring(g, k, 1));
                due(500, () -> x.bring(g, k, 499));
                refused(x, 2, 500, () -> x.bring(g, k, 1));
                due(500, () -> x.leaves(g, k));
            }
        }
        due(9000, () -> x.account(1));
    }

    @Says("Of each kind of each garden there are from 0 to 500 pounds in the store, at first 0.")
    private static void downToNothingAndNotBelow() {
        TeaChests x = new TeaChests();
        x.bring(2, BROKEN, 50);
        x.make(5);
        x.make(5);
        refused(x, 9, 0, () -> x.fill(0, 2, DUST, 1));
        due(0, () -> x.fill(0, 2, BROKEN, 50));
        due(0, () -> x.leaves(2, BROKEN));
        refused(x, 9, 0, () -> x.fill(1, 2, BROKEN, 1));
    }

    @Says("There are from 0 to 200 sheets of lead, at first 10, and from 0 to 200 screws, at first 20.")
    private static void from0To200Sheets() {
        TeaChests x = new TeaChests();
        due(10, () -> x.account(6));
        x.make(5);
        x.make(1);
        due(0, () -> x.line(0));
        refused(x, 6, 0, () -> x.line(1));
        due(99, () -> x.buy(false, 99));
        due(198, () -> x.buy(false, 99));
        due(199, () -> x.buy(false, 1));
        due(200, () -> x.buy(false, 1));
        due(200, () -> x.buy(false, 1));
        due(200, () -> x.account(6));
    }

    @Says("There are from 0 to 200 sheets of lead, at first 10, and from 0 to 200 screws, at first 20.")
    private static void from0To200Screws() {
        TeaChests x = new TeaChests();
        due(20, () -> x.account(7));
        x.bring(1, DUST, 30);
        for (int i = 0; i < 4; i++) {
            filled(x, 1, DUST, 1);
        }
        x.screw(0, 8);
        x.screw(1, 8);
        x.screw(2, 4);
        due(0, () -> x.account(7));
        refused(x, 11, 0, () -> x.screw(3, 1));
        due(99, () -> x.buy(true, 99));
        due(198, () -> x.buy(true, 99));
        due(199, () -> x.buy(true, 1));
        due(200, () -> x.buy(true, 99));
        x.unscrew(0);
        due(200, () -> x.account(7));
    }

    // ---- chests

    @Says("At most 20 chests are made in all, numbered from 0, each of a size from 1 to 5, and with room for 10 pounds for each degree of its size.")
    private static void atMost20ChestsInAll() {
        TeaChests x = stocked();
        due(0, () -> gone(x, 1, TIPS, 3));
        for (int number = 1; number < 20; number++) {
            int want = number;
            due(want, () -> x.make(1 + want % 5));
        }
        // The chest that is gone counts, too.
        due(19, () -> x.account(9));
        refused(x, 1, 20, () -> x.make(1));
        due(20, () -> x.account(8));
        due(5, () -> x.chest(19, 0));
        outside(INDEX, x, 0, 19, chest -> x.chest(chest, 0));
    }

    @Says("At most 20 chests are made in all, numbered from 0, each of a size from 1 to 5, and with room for 10 pounds for each degree of its size.")
    private static void sizesFrom1To5AndTheirRoom() {
        TeaChests x = stocked();
        for (int size = 1; size <= 5; size++) {
            int want = size;
            int chest = x.make(size);
            due(want, () -> x.chest(chest, 0));
            due(1, () -> x.fill(chest, 1, DUST, 10 * want - 1));
            refused(x, 8, 1, () -> x.fill(chest, 1, DUST, 2));
            due(0, () -> x.fill(chest, 1, DUST, 1));
            refused(x, 8, 0, () -> x.fill(chest, 1, DUST, 1));
            due(10 * want, () -> x.chest(chest, 3));
        }
        outside(ARGUMENT, x, 1, 5, x::make);
    }

    @Says("A chest is empty, or has pounds of one kind of one garden; it is lined or not, at first not, has from 0 to 8 screws, at first 0, damp from 0 to 20, at first 0, and a label or none, at first none.")
    private static void aChestAtFirst() {
        TeaChests x = new TeaChests();
        for (int size = 1; size <= 5; size++) {
            int chest = x.make(size);
            int[] first = {size, -1, -1, 0, 0, 0, 0, 0, 0, 0};
            for (int what = 0; what < first.length; what++) {
                int asking = what;
                due(first[what], () -> x.chest(chest, asking));
            }
            due(NONE, () -> x.labelled(chest, 0));
        }
    }

    @Says("A chest is empty, or has pounds of one kind of one garden; it is lined or not, at first not, has from 0 to 8 screws, at first 0, damp from 0 to 20, at first 0, and a label or none, at first none.")
    private static void oneKindOfOneGarden() {
        TeaChests x = stocked();
        x.bring(2, DUST, 20);
        int chest = filled(x, 2, DUST, 1);
        refused(x, 7, 10, () -> x.fill(chest, 1, BROKEN, 1));
        refused(x, 7, 10, () -> x.fill(chest, 2, DUST, 1));
        due(18, () -> x.fill(chest, 1, DUST, 1));
        x.empty(chest);
        due(19, () -> x.fill(chest, 2, DUST, 1));
        due(2, () -> x.chest(chest, 1));
    }

    @Says("A chest is empty, or has pounds of one kind of one garden; it is lined or not, at first not, has from 0 to 8 screws, at first 0, damp from 0 to 20, at first 0, and a label or none, at first none.")
    private static void atMost8Screws() {
        TeaChests x = stocked();
        int chest = filled(x, 5, DUST, 1);
        x.screw(chest, 7);
        refused(x, 12, 7, () -> x.screw(chest, 2));
        x.screw(chest, 1);
        due(8, () -> x.chest(chest, 5));
        refused(x, 12, 8, () -> x.screw(chest, 1));
        due(8, () -> x.chest(chest, 5));
    }

    @Says("It is in the house, as at first, on the quay, on the ship, or gone.")
    private static void theFourPlaces() {
        TeaChests x = everywhere();
        x.make(1);
        int[] places = {0, 1, 2, 3, 0};
        for (int chest = 0; chest < places.length; chest++) {
            int asking = chest;
            due(places[chest], () -> x.chest(asking, 8));
        }
    }

    @Says("To line a chest takes 2 sheets for each degree of its size.")
    private static void twoSheetsForEachDegree() {
        for (int size = 1; size <= 5; size++) {
            TeaChests x = new TeaChests();
            int needed = 2 * size;
            // Of the 10 sheets just as many are left as are needed, or one too few.
            x.make(5);
            x.line(0);
            if (needed > 1) {
                x.buy(false, needed - 1);
            }
            int chest = x.make(size);
            refused(x, 6, needed - 1, () -> x.line(chest));
            x.buy(false, 1);
            due(0, () -> x.line(chest));
            due(1, () -> x.chest(chest, 4));
        }
    }

    @Says("A chest is tight if it is lined and has at least 2 screws more than its size.")
    private static void tightWithTwoScrewsMoreThanItsSize() {
        for (int size = 1; size <= 5; size++) {
            TeaChests x = stocked();
            int least = size + 2;
            int chest = filled(x, size, DUST, 1);
            x.line(chest);
            due(0, () -> x.chest(chest, 7));
            due(false, () -> x.screw(chest, least - 1));
            due(0, () -> x.chest(chest, 7));
            due(true, () -> x.screw(chest, 1));
            due(1, () -> x.chest(chest, 7));
            due(true, () -> least == 8 || x.screw(chest, 1));
        }
    }

    @Says("A chest is tight if it is lined and has at least 2 screws more than its size.")
    private static void notTightWithoutLead() {
        for (int size = 1; size <= 5; size++) {
            TeaChests x = stocked();
            int chest = filled(x, size, DUST, 1);
            due(false, () -> x.screw(chest, 8));
            due(0, () -> x.chest(chest, 7));
        }
    }

    @Says("An empty chest has no label, and the damp 0.")
    private static void anEmptyChestHasNoLabelAndNoDamp() {
        TeaChests x = stocked();
        x.setHumidity(9);
        int empty = x.make(1);
        int chest = filled(x, 1, DUST, 5);
        x.pass(3);
        due(0, () -> x.chest(empty, 6));
        x.label(chest);
        due(3, () -> x.chest(chest, 6));
        x.empty(chest);
        due(0, () -> x.chest(chest, 6));
        due(0, () -> x.chest(chest, 9));
        due(NONE, () -> x.labelled(chest, 0));
        x.pass(3);
        due(0, () -> x.chest(chest, 6));
        x.fill(chest, 1, DUST, 5);
        due(0, () -> x.chest(chest, 6));
        x.pass(1);
        due(1, () -> x.chest(chest, 6));
    }

    // ---- the tide, the ship

    @Says("The clock is 0 at first, and goes on by hours.")
    private static void theClock() {
        TeaChests x = new TeaChests();
        due(0, () -> x.account(0));
        x.bring(0, DUST, 1);
        x.setHumidity(9);
        x.save();
        due(0, () -> x.account(0));
        x.pass(1);
        due(1, () -> x.account(0));
        x.pass(72);
        due(73, () -> x.account(0));
        perform(x, "hours 9;hours 10");
        due(92, () -> x.account(0));
    }

    @Says("The height of the water in an hour is the difference without its sign between 6 and the hour modulo 12.")
    private static void heightsOverTwoDays() {
        TeaChests x = new TeaChests();
        due(6, () -> x.height(0));
        for (int hour = 1; hour <= 50; hour++) {
            int fromSix = 6 - hour % 12;
            int want = fromSix < 0 ? -fromSix : fromSix;
            due(want, () -> x.pass(1));
            due(want, () -> x.height(0));
            due(want, () -> x.heightAgain(0));
        }
    }

    @Says("The height of the water in an hour is the difference without its sign between 6 and the hour modulo 12.")
    private static void heightsWhereTheHourWrapsAround() {
        TeaChests x = new TeaChests();
        int[] heights = {6, 5, 4, 3, 2, 1, 0, 1, 2, 3, 4, 5};
        for (int hour = 0; hour <= 99; hour++) {
            int asking = hour;
            due(heights[hour % 12], () -> x.height(asking));
            due(heights[hour % 12], () -> x.heightAgain(asking));
        }
        due(5, () -> x.pass(11));
        due(6, () -> x.height(1));
        due(5, () -> x.height(2));
        due(6, () -> x.pass(1));
        due(6, () -> x.pass(72));
    }

    @Says("The ship can be reached if the height is 3 or more.")
    private static void reachedFromHeight3On() {
        int[] heights = {6, 5, 4, 3, 2, 1, 0, 1, 2, 3, 4, 5, 6};
        for (int hour = 0; hour < heights.length; hour++) {
            TeaChests x = stocked();
            onShip(x, 1, DUST, 4);
            onQuay(x, 1, DUST, 1);
            if (hour > 0) {
                x.pass(hour);
            }
            if (heights[hour] >= 3) {
                due(0, x::reachedIn);
                due(10, () -> x.load(1));
                due(5, x::sail);
            } else {
                refused(x, 16, heights[hour], () -> x.load(1));
                refused(x, 16, heights[hour], x::sail);
            }
        }
    }

    @Says("It has room for 12 degrees of size of chests.")
    private static void roomFor12Degrees() {
        TeaChests x = stocked();
        int one = onQuay(x, 1, DUST, 1);
        int two = onQuay(x, 2, DUST, 1);
        due(12, () -> x.account(12));
        due(7, () -> x.load(onQuay(x, 5, DUST, 1)));
        due(2, () -> x.load(onQuay(x, 5, DUST, 1)));
        int three = onQuay(x, 3, DUST, 1);
        refused(x, 17, 2, () -> x.load(three));
        due(1, () -> x.load(one));
        refused(x, 17, 1, () -> x.load(two));
        due(0, () -> x.load(onQuay(x, 1, DUST, 1)));
        due(0, () -> x.account(12));
        int more = onQuay(x, 1, DUST, 1);
        refused(x, 17, 0, () -> x.load(more));
    }

    @Says("When it has sailed, another one is there at once, which is empty.")
    private static void anotherShipIsThereAtOnce() {
        TeaChests x = stocked();
        onShip(x, 5, DUST, 1);
        onShip(x, 5, DUST, 1);
        onShip(x, 2, DUST, 1);
        int next = onQuay(x, 5, DUST, 7);
        x.sail();
        due(12, () -> x.account(12));
        due(0, () -> x.account(11));
        due(0, x::cargo);
        refused(x, 18, 0, x::sail);
        due(7, () -> x.load(next));
        due(7, x::sail);
        due(2, () -> x.account(13));
    }

    // ---- an hour

    private static final String AN_HOUR = "If an hour goes by, the clock becomes 1 more; then, if the air is humid, with a humidity of 5 or more, from 0 to 9, at first 4, the damp of each chest in the house that has leaves and is not tight becomes 1 more, but not more than 20.";

    @Says(AN_HOUR)
    private static void humidFrom5On() {
        for (int humidity = 0; humidity <= 9; humidity++) {
            TeaChests x = stocked();
            int chest = filled(x, 1, DUST, 1);
            x.setHumidity(humidity);
            x.pass(1);
            due(1, () -> x.account(0));
            due(humidity >= 5 ? 1 : 0, () -> x.chest(chest, 6));
            x.pass(3);
            due(humidity >= 5 ? 4 : 0, () -> x.chest(chest, 6));
        }
    }

    @Says(AN_HOUR)
    private static void humidityFrom0To9AtFirst4() {
        TeaChests x = stocked();
        int chest = filled(x, 1, DUST, 1);
        due(4, () -> x.account(15));
        x.pass(72);
        due(0, () -> x.chest(chest, 6));
        outside(ARGUMENT, x, 0, 9, x::setHumidity);
        due(4, () -> x.setHumidity(0));
        due(0, () -> x.setHumidity(9));
        due(9, () -> x.account(15));
    }

    @Says(AN_HOUR)
    private static void dampUpTo20() {
        TeaChests x = stocked();
        int chest = filled(x, 1, DUST, 10);
        x.setHumidity(5);
        x.pass(19);
        due(19, () -> x.chest(chest, 6));
        x.pass(1);
        due(20, () -> x.chest(chest, 6));
        x.pass(1);
        due(20, () -> x.chest(chest, 6));
        x.pass(72);
        due(20, () -> x.chest(chest, 6));
        due(0, () -> x.worth(chest));
        TeaChests y = stocked();
        int other = filled(y, 1, DUST, 10);
        y.setHumidity(9);
        y.pass(72);
        due(20, () -> y.chest(other, 6));
    }

    @Says(AN_HOUR)
    private static void noDampInATightChest() {
        TeaChests x = stocked();
        x.setHumidity(9);
        for (int size = 1; size <= 5; size++) {
            int loose = filled(x, size, DUST, 1);
            int tight = filled(x, size, DUST, 1);
            int unlined = filled(x, size, DUST, 1);
            x.line(loose);
            x.line(tight);
            x.screw(loose, size + 1);
            x.screw(tight, size + 2);
            x.screw(unlined, 8);
            x.pass(1);
            due(1, () -> x.chest(loose, 6));
            due(0, () -> x.chest(tight, 6));
            due(1, () -> x.chest(unlined, 6));
            x.unscrew(tight);
            x.pass(1);
            due(1, () -> x.chest(tight, 6));
            x.screw(tight, size + 2);
        }
    }

    @Says(AN_HOUR)
    private static void noDampOutsideTheHouse() {
        TeaChests x = stocked();
        x.setHumidity(9);
        for (int i = 0; i < 4; i++) {
            filled(x, 1, DUST, 1);
        }
        x.pass(2);
        for (int chest = 1; chest < 4; chest++) {
            finish(x, chest);
        }
        x.load(3);
        x.sail();
        x.load(2);
        x.pass(5);
        int[] damps = {7, 2, 2, 2};
        for (int chest = 0; chest < 4; chest++) {
            int asking = chest;
            due(damps[chest], () -> x.chest(asking, 6));
            due(chest, () -> x.chest(asking, 8));
        }
    }

    @Says(AN_HOUR)
    private static void noDampInAnEmptyChest() {
        TeaChests x = stocked();
        x.setHumidity(9);
        int chest = x.make(5);
        x.pass(72);
        due(0, () -> x.chest(chest, 6));
        x.fill(chest, 1, DUST, 1);
        due(0, () -> x.chest(chest, 6));
        x.pass(1);
        due(1, () -> x.chest(chest, 6));
    }

    // ---- coins

    @Says("There are no coins at first.")
    private static void noCoinsAtFirst() {
        TeaChests x = everywhereButGone();
        due(0, () -> x.account(14));
        due(22, x::sail);
        due(22, () -> x.account(14));
    }

    private static TeaChests everywhereButGone() {
        TeaChests x = stocked();
        ready(x, 1, TIPS, 5);
        onQuay(x, 1, TIPS, 5);
        onShip(x, 2, BROKEN, 11);
        return x;
    }

    @Says("A chest that sails brings its pounds times its kind and 1, less its pounds times its damp divided by 20.")
    private static void whatAChestBrings() {
        for (int kind = 0; kind < 3; kind++) {
            for (int damp = 0; damp <= 20; damp++) {
                TeaChests x = stocked();
                x.setHumidity(5);
                int chest = filled(x, 2, kind, 17);
                if (damp > 0) {
                    x.pass(damp);
                }
                int want = 17 * (kind + 1) - 17 * damp / 20;
                due(want, () -> x.worth(chest));
                finish(x, chest);
                if (x.reachedIn() > 0) {
                    x.pass(x.reachedIn());
                }
                x.load(chest);
                due(want, x::cargo);
                due(want, x::sail);
                due(want, () -> x.account(14));
            }
        }
    }

    // ---- labels

    private static final String THE_LABEL = "The label of a chest is the number of its garden, a point, and \"dust\", \"broken\" or \"tips\", a blank, and its pounds, as in \"3.tips 20\", and, behind that, a blank and \"damp\" if its damp is 1 or more when it is labelled.";

    @Says(THE_LABEL)
    private static void labelsOfOneAndTwoDigits() {
        TeaChests x = new TeaChests();
        x.bring(3, TIPS, 50);
        x.make(5);
        int[] pounds = {1, 9, 10, 20, 50};
        int inside = 0;
        for (int many : pounds) {
            x.fill(0, 3, TIPS, many - inside);
            inside = many;
            String want = "3.tips " + many;
            due(want.length(), () -> x.label(0));
            due(want, () -> labelOf(x, 0));
        }
    }

    @Says(THE_LABEL)
    private static void labelsOfChestsThatAreDamp() {
        TeaChests x = stocked();
        x.setHumidity(5);
        int chest = filled(x, 1, BROKEN, 7);
        due(10, () -> x.label(chest));
        due("1.broken 7", () -> labelOf(x, chest));
        x.pass(1);
        due("1.broken 7", () -> labelOf(x, chest));
        due(15, () -> x.label(chest));
        due("1.broken 7 damp", () -> labelOf(x, chest));
        x.pass(72);
        due(15, () -> x.label(chest));
        due("1.broken 7 damp", () -> labelOf(x, chest));
    }

    @Says("The label goes when leaves are put into the chest or taken out.")
    private static void theLabelGoesWithTheLeaves() {
        TeaChests x = stocked();
        int chest = filled(x, 1, BROKEN, 7);
        x.label(chest);
        x.fill(chest, 1, BROKEN, 1);
        due(0, () -> x.chest(chest, 9));
        due(NONE, () -> x.labelled(chest, 0));
        x.label(chest);
        x.empty(chest);
        due(0, () -> x.chest(chest, 9));
        x.fill(chest, 1, BROKEN, 8);
        due(0, () -> x.chest(chest, 9));
    }

    @Says("The label goes when leaves are put into the chest or taken out.")
    private static void theLabelStaysOtherwise() {
        TeaChests x = stocked();
        int chest = filled(x, 1, BROKEN, 7);
        x.label(chest);
        refused(x, 8, 3, () -> x.fill(chest, 1, BROKEN, 4));
        refused(x, 7, 11, () -> x.fill(chest, 1, TIPS, 1));
        x.line(chest);
        x.screw(chest, 3);
        refused(x, 4, 3, () -> x.empty(chest));
        x.pass(1);
        x.toQuay(chest);
        x.pass(11);
        x.load(chest);
        x.sail();
        due("1.broken 7", () -> labelOf(x, chest));
    }

    // ---- reasons: each with its detail, just where it begins to apply

    @Says("1, there are as many as there can be: this number")
    private static void reason1() {
        TeaChests x = new TeaChests();
        for (int i = 0; i < 19; i++) {
            x.make(1);
        }
        due(19, () -> x.make(1));
        refused(x, 1, 20, () -> x.make(1));
    }

    @Says("2, there would be more than 500 pounds: how many there are")
    private static void reason2() {
        TeaChests x = new TeaChests();
        x.bring(4, TIPS, 1);
        refused(x, 2, 1, () -> x.bring(4, TIPS, 500));
        due(500, () -> x.bring(4, TIPS, 499));
        refused(x, 2, 500, () -> x.bring(4, TIPS, 1));
    }

    /** The call is given chests whose number is also the place where they are. */
    private static void notInTheHouse(ChestCall call) {
        for (int where = 1; where <= 3; where++) {
            TeaChests x = everywhere();
            int chest = where;
            refused(x, 3, where, () -> call.on(x, chest));
        }
    }

    @Says("3, the chest is not in the house: where it is, 1 for the quay, 2 for the ship, 3 if it is gone")
    private static void reason3() {
        notInTheHouse((x, chest) -> x.line(chest));
        notInTheHouse((x, chest) -> x.fill(chest, 1, BROKEN, 1));
        notInTheHouse((x, chest) -> x.empty(chest));
        notInTheHouse((x, chest) -> x.screw(chest, 1));
        notInTheHouse((x, chest) -> x.unscrew(chest));
        notInTheHouse((x, chest) -> x.label(chest));
        notInTheHouse((x, chest) -> x.toQuay(chest));
    }

    @Says("4, the chest has screws: how many")
    private static void reason4() {
        for (int screws = 1; screws <= 8; screws++) {
            TeaChests x = stocked();
            int want = screws;
            int chest = filled(x, 1, DUST, 1);
            x.screw(chest, screws);
            refused(x, 4, want, () -> x.line(chest));
            refused(x, 4, want, () -> x.fill(chest, 1, DUST, 1));
            refused(x, 4, want, () -> x.empty(chest));
            x.unscrew(chest);
            due(8, () -> x.fill(chest, 1, DUST, 1));
            due(198, () -> x.line(chest));
            due(2, () -> x.empty(chest));
        }
    }

    @Says("5, the chest is lined: its size")
    private static void reason5() {
        for (int size = 1; size <= 5; size++) {
            TeaChests x = stocked();
            int want = size;
            int chest = x.make(size);
            due(200 - 2 * want, () -> x.line(chest));
            refused(x, 5, want, () -> x.line(chest));
        }
    }

    @Says("6, there are too few sheets: how many there are")
    private static void reason6() {
        TeaChests x = new TeaChests();
        x.make(3);
        x.make(3);
        due(4, () -> x.line(0));
        refused(x, 6, 4, () -> x.line(1));
        x.buy(false, 1);
        refused(x, 6, 5, () -> x.line(1));
        x.buy(false, 1);
        due(0, () -> x.line(1));
    }

    @Says("7, the chest has other leaves: 10 times their garden, plus their kind")
    private static void reason7() {
        for (int garden = 0; garden < 6; garden++) {
            for (int kind = 0; kind < 3; kind++) {
                TeaChests x = new TeaChests();
                int want = 10 * garden + kind;
                int otherGarden = (garden + 1) % 6;
                int otherKind = (kind + 1) % 3;
                int sameGarden = garden;
                int sameKind = kind;
                x.bring(garden, kind, 9);
                x.bring(otherGarden, kind, 9);
                x.bring(garden, otherKind, 9);
                x.make(1);
                x.fill(0, garden, kind, 1);
                refused(x, 7, want, () -> x.fill(0, otherGarden, sameKind, 1));
                refused(x, 7, want, () -> x.fill(0, sameGarden, otherKind, 1));
                due(8, () -> x.fill(0, sameGarden, sameKind, 1));
            }
        }
    }

    @Says("8, the chest has too little room: how much it has")
    private static void reason8() {
        TeaChests x = stocked();
        int chest = x.make(1);
        refused(x, 8, 10, () -> x.fill(chest, 1, DUST, 11));
        due(3, () -> x.fill(chest, 1, DUST, 7));
        refused(x, 8, 3, () -> x.fill(chest, 1, DUST, 4));
        due(0, () -> x.fill(chest, 1, DUST, 3));
        refused(x, 8, 0, () -> x.fill(chest, 1, DUST, 1));
    }

    @Says("9, there are too few pounds: how many there are")
    private static void reason9() {
        TeaChests x = new TeaChests();
        x.make(5);
        refused(x, 9, 0, () -> x.fill(0, 5, TIPS, 1));
        x.bring(5, TIPS, 30);
        refused(x, 9, 30, () -> x.fill(0, 5, TIPS, 31));
        due(20, () -> x.fill(0, 5, TIPS, 30));
        refused(x, 9, 0, () -> x.fill(0, 5, TIPS, 1));
    }

    @Says("10, the chest is empty: the chest")
    private static void reason10() {
        TeaChests x = stocked();
        for (int chest = 0; chest < 3; chest++) {
            int asking = x.make(1);
            refused(x, 10, asking, () -> x.empty(asking));
            refused(x, 10, asking, () -> x.screw(asking, 1));
            refused(x, 10, asking, () -> x.label(asking));
            refused(x, 10, asking, () -> x.toQuay(asking));
        }
        x.fill(2, 1, DUST, 1);
        due(8, () -> x.label(2));
        due(false, () -> x.screw(2, 1));
        x.unscrew(2);
        due(1, () -> x.empty(2));
    }

    @Says("11, there are too few screws: how many there are")
    private static void reason11() {
        TeaChests x = new TeaChests();
        x.bring(1, DUST, 9);
        for (int i = 0; i < 3; i++) {
            filled(x, 1, DUST, 1);
        }
        x.screw(0, 8);
        x.screw(1, 8);
        refused(x, 11, 4, () -> x.screw(2, 5));
        due(false, () -> x.screw(2, 4));
        refused(x, 11, 0, () -> x.screw(2, 1));
    }

    @Says("12, the chest would have more than 8 screws: how many it has")
    private static void reason12() {
        TeaChests x = stocked();
        int chest = filled(x, 1, DUST, 1);
        x.screw(chest, 1);
        refused(x, 12, 1, () -> x.screw(chest, 8));
        due(false, () -> x.screw(chest, 7));
        refused(x, 12, 8, () -> x.screw(chest, 1));
    }

    @Says("13, the chest is not tight: the chest")
    private static void reason13() {
        TeaChests x = stocked();
        x.make(1);
        int chest = filled(x, 2, DUST, 1);
        x.label(chest);
        refused(x, 13, chest, () -> x.toQuay(chest));
        x.line(chest);
        refused(x, 13, chest, () -> x.toQuay(chest));
        x.screw(chest, 3);
        refused(x, 13, chest, () -> x.toQuay(chest));
        x.screw(chest, 1);
        due(1, () -> x.toQuay(chest));
    }

    @Says("14, the chest has no label: the chest")
    private static void reason14() {
        TeaChests x = stocked();
        x.make(1);
        int chest = filled(x, 1, DUST, 1);
        x.label(chest);
        x.fill(chest, 1, DUST, 1);
        x.line(chest);
        x.screw(chest, 3);
        refused(x, 14, chest, () -> x.toQuay(chest));
        x.label(chest);
        due(1, () -> x.toQuay(chest));
    }

    @Says("15, the chest is not on the quay: where it is, 0 for the house, 2 for the ship, 3 if it is gone")
    private static void reason15() {
        TeaChests x = everywhere();
        refused(x, 15, 0, () -> x.load(0));
        refused(x, 15, 2, () -> x.load(2));
        refused(x, 15, 3, () -> x.load(3));
        due(5, () -> x.load(1));
        refused(x, 15, 2, () -> x.load(1));
    }

    @Says("16, the ship cannot be reached: the height")
    private static void reason16() {
        TeaChests x = everywhere();
        int[] heights = {6, 5, 4, 3, 2, 1, 0, 1, 2, 3};
        x.pass(3);
        for (int hour = 4; hour <= 8; hour++) {
            x.pass(1);
            refused(x, 16, heights[hour], () -> x.load(1));
            refused(x, 16, heights[hour], x::sail);
        }
        x.pass(1);
        due(5, () -> x.load(1));
        due(85, x::sail);
    }

    @Says("17, the ship has too little room: how much it has")
    private static void reason17() {
        TeaChests x = everywhere();
        x.load(1);
        due(0, () -> x.load(onQuay(x, 5, DUST, 1)));
        int chest = onQuay(x, 1, DUST, 1);
        refused(x, 17, 0, () -> x.load(chest));
        x.sail();
        due(11, () -> x.load(chest));
    }

    @Says("18, there is nothing on the ship: 0")
    private static void reason18() {
        TeaChests x = stocked();
        refused(x, 18, 0, x::sail);
        int chest = onQuay(x, 1, DUST, 1);
        refused(x, 18, 0, x::sail);
        x.load(chest);
        due(1, x::sail);
        refused(x, 18, 0, x::sail);
    }

    @Says("19, a command of a text cannot be carried out: its number, from 0")
    private static void reason19() {
        TeaChests x = stocked();
        x.make(1);
        feed(x, "sail");
        refused(x, 19, 0, x::perform);
        feed(x, "hours 1;label 0");
        refused(x, 19, 1, x::perform);
        feed(x, "hours 1;hours 2;hours 3;hours 4;hours 5;hours 6;line 1");
        refused(x, 19, 6, x::perform);
        due(2, () -> perform(x, "hours 1;line 0"));
    }

    // ---- reasons: the first that applies

    private static final String THE_FIRST = "Something is refused for the first of these reasons that applies, with a detail";

    @Says(THE_FIRST)
    private static void theFirstReasonOfLine() {
        TeaChests x = new TeaChests();
        x.bring(1, DUST, 50);
        int gone = gone(x, 1, DUST, 1);
        int ship = onShip(x, 1, DUST, 1);
        int quay = onQuay(x, 1, DUST, 1);
        int house = ready(x, 1, DUST, 1);
        int lined = x.make(1);
        x.line(lined);
        int screwed = filled(x, 1, DUST, 1);
        x.screw(screwed, 2);
        // All of the first four are lined and have screws, and there are no more sheets.
        due(0, () -> x.account(6));
        refused(x, 3, 3, () -> x.line(gone));
        refused(x, 3, 2, () -> x.line(ship));
        refused(x, 3, 1, () -> x.line(quay));
        refused(x, 4, 3, () -> x.line(house));
        refused(x, 4, 2, () -> x.line(screwed));
        refused(x, 5, 1, () -> x.line(lined));
        x.unscrew(screwed);
        refused(x, 6, 0, () -> x.line(screwed));
    }

    @Says(THE_FIRST)
    private static void theFirstReasonOfFill() {
        TeaChests x = everywhere();
        refused(x, 3, 1, () -> x.fill(1, 0, DUST, 50));
        refused(x, 3, 2, () -> x.fill(2, 0, DUST, 50));
        refused(x, 3, 3, () -> x.fill(3, 0, DUST, 50));
        refused(x, 4, 4, () -> x.fill(0, 0, DUST, 50));
        x.unscrew(0);
        refused(x, 7, 12, () -> x.fill(0, 0, DUST, 50));
        refused(x, 7, 12, () -> x.fill(0, 0, DUST, 5));
        refused(x, 7, 12, () -> x.fill(0, 1, DUST, 50));
        x.empty(0);
        refused(x, 8, 20, () -> x.fill(0, 0, DUST, 50));
        refused(x, 9, 0, () -> x.fill(0, 0, DUST, 20));
        // The screws hide each of the later reasons.
        x.fill(0, 1, DUST, 15);
        x.screw(0, 1);
        refused(x, 4, 1, () -> x.fill(0, 1, BROKEN, 1));
        refused(x, 4, 1, () -> x.fill(0, 1, DUST, 6));
    }

    @Says(THE_FIRST)
    private static void theFirstReasonOfEmpty() {
        TeaChests x = everywhere();
        for (int where = 1; where <= 3; where++) {
            int chest = where;
            refused(x, 3, chest, () -> x.empty(chest));
        }
        refused(x, 4, 4, () -> x.empty(0));
        x.unscrew(0);
        due(15, () -> x.empty(0));
        refused(x, 10, 0, () -> x.empty(0));
    }

    @Says(THE_FIRST)
    private static void theFirstReasonOfScrew() {
        TeaChests x = new TeaChests();
        x.bring(1, DUST, 9);
        x.buy(true, 6);
        x.buy(false, 6);
        x.make(1);
        int ship = onShip(x, 1, DUST, 1);
        int quay = onQuay(x, 1, DUST, 1);
        int full = filled(x, 1, DUST, 1);
        x.screw(full, 8);
        int most = filled(x, 1, DUST, 1);
        x.screw(most, 8);
        // 4 screws are left: both 11 and 12 apply to the chests outside, and 11 to the empty one.
        refused(x, 3, 2, () -> x.screw(ship, 8));
        refused(x, 3, 1, () -> x.screw(quay, 8));
        refused(x, 10, 0, () -> x.screw(0, 8));
        refused(x, 11, 4, () -> x.screw(full, 8));
        refused(x, 12, 8, () -> x.screw(full, 4));
        x.sail();
        refused(x, 3, 3, () -> x.screw(ship, 8));
    }

    @Says(THE_FIRST)
    private static void theFirstReasonOfToQuay() {
        TeaChests x = stocked();
        int chest = x.make(1);
        refused(x, 10, chest, () -> x.toQuay(chest));
        x.fill(chest, 1, DUST, 1);
        refused(x, 13, chest, () -> x.toQuay(chest));
        x.line(chest);
        x.screw(chest, 3);
        refused(x, 14, chest, () -> x.toQuay(chest));
        x.label(chest);
        x.toQuay(chest);
        refused(x, 3, 1, () -> x.toQuay(chest));
    }

    @Says(THE_FIRST)
    private static void theFirstReasonOfLoad() {
        TeaChests x = everywhere();
        x.load(1);
        int large = onQuay(x, 5, DUST, 1);
        int larger = onQuay(x, 5, DUST, 1);
        x.load(large);
        x.pass(5);
        refused(x, 15, 0, () -> x.load(0));
        refused(x, 15, 2, () -> x.load(1));
        refused(x, 15, 3, () -> x.load(3));
        refused(x, 16, 1, () -> x.load(larger));
        x.pass(7);
        refused(x, 15, 0, () -> x.load(0));
        refused(x, 17, 0, () -> x.load(larger));
    }

    @Says(THE_FIRST)
    private static void theFirstReasonOfSail() {
        TeaChests x = stocked();
        x.pass(6);
        refused(x, 16, 0, x::sail);
        x.pass(6);
        refused(x, 18, 0, x::sail);
    }

    @Says("The reason and the detail of the latest refusal are kept.")
    private static void theLatestRefusalIsKept() {
        TeaChests x = stocked();
        int chest = x.make(2);
        refused(x, 18, 0, x::sail);
        refused(x, 10, chest, () -> x.empty(chest));
        x.line(chest);
        x.pass(1);
        due(ARGUMENT, () -> x.pass(0));
        due(INDEX, () -> x.line(7));
        due(NONE, () -> x.labelled(chest, 0));
        due(STATE, x::restore);
        due(-100, x::perform);
        due(1, () -> perform(x, "hours 1"));
        due(10, () -> x.reason(false));
        due(chest, () -> x.reason(true));
        refused(x, 5, 2, () -> x.line(chest));
        feed(x, "sail");
        refused(x, 19, 0, x::perform);
    }

    // ---- texts

    /** The text and the calls make the same of two houses that are alike. */
    private static void sameAs(int commands, String text, HouseCall... calls) {
        TeaChests byText = everywhere();
        TeaChests byCalls = everywhere();
        filled(byText, 2, BROKEN, 7);
        filled(byCalls, 2, BROKEN, 7);
        due(commands, () -> perform(byText, text));
        for (HouseCall call : calls) {
            answer(() -> call.on(byCalls));
        }
        due(picture(byCalls), () -> picture(byText));
    }

    private static final String COMMANDS = "where braces mean zero or more repetitions and brackets an optional part: the commands line a chest, fill it with pounds of a kind of a garden, put screws into it, label it, bring it to the quay, load it onto the ship, let the ship sail, and let hours go by.";

    @Says(COMMANDS)
    private static void whatTheCommandsDo() {
        sameAs(1, "line 4", x -> x.line(4));
        sameAs(1, "fill 4 1.broken 13", x -> x.fill(4, 1, BROKEN, 13));
        sameAs(1, "screw 4 8", x -> x.screw(4, 8));
        sameAs(1, "label 4", x -> x.label(4));
        sameAs(1, "quay 0", x -> x.toQuay(0));
        sameAs(1, "load 1", x -> x.load(1));
        sameAs(1, "sail", x -> x.sail());
        sameAs(1, "hours 72", x -> x.pass(72));
        sameAs(5, "line 4;screw 4 4;label 4;quay 4;load 4", x -> x.line(4), x -> x.screw(4, 4), x -> x.label(4),
                x -> x.toQuay(4), x -> x.load(4));
    }

    @Says(COMMANDS)
    private static void whatTheKindsOfATextMean() {
        TeaChests x = stocked();
        String[] words = {"dust", "broken", "tips"};
        for (int kind = 0; kind < 3; kind++) {
            String text = "fill " + x.make(1) + " 1." + words[kind] + " 9";
            int chest = kind;
            due(1, () -> perform(x, text));
            due(1, () -> x.chest(chest, 1));
            due(chest, () -> x.chest(chest, 2));
            due(9, () -> x.chest(chest, 3));
        }
    }

    @Says(COMMANDS)
    private static void fromOneCommandToAsManyAsFit() {
        TeaChests x = stocked();
        due(1, () -> perform(x, "hours 1"));
        due(2, () -> perform(x, "hours 1;hours 1"));
        due(7, () -> perform(x, "hours 1;hours 1;hours 1;hours 1;hours 1;hours 1;hours 1"));
        due(10, () -> x.account(0));
        x.make(1);
        String longest = "hours 72;hours 72;hours 72;hours 72;hours 72;hours 72;line 0";
        due(60, longest::length);
        due(7, () -> perform(x, longest));
        due(442, () -> x.account(0));
        due(1, () -> x.chest(0, 4));
    }

    @Says("number = digit [ digit ]")
    private static void numbersOfOneAndTwoDigits() {
        TeaChests x = stocked();
        for (int i = 0; i < 20; i++) {
            x.make(1);
        }
        due(6, () -> perform(x, "line 0;line 9;line 10;line 19;line 01;line 08"));
        int[] lined = {0, 1, 8, 9, 10, 19};
        for (int chest : lined) {
            due(1, () -> x.chest(chest, 4));
        }
        due(188, () -> x.account(6));
        due(3, () -> perform(x, "hours 9;hours 10;hours 01"));
        due(20, () -> x.account(0));
        for (String text : new String[] {"line 100", "line 000", "line 123;sail"}) {
            due(-107, () -> perform(x, text));
        }
        // The signs next to the digits, and a digit of another script.
        for (char sign : new char[] {'/', ':', ' ', '-', 'a', (char) 0, (char) 0x661, (char) 0xff11}) {
            due(-105, () -> perform(x, "line " + sign));
            due(-106, () -> perform(x, "line 1" + sign));
        }
    }

    private static final String ERROR_POSITION = "The error position of a text is the offset, from 0, of the first character that cannot continue such a text, or the length of the text if it ends too early.";
    private static final String[] TEXTS = {
        "line 7", "line 12;sail", "fill 0 1.dust 7", "fill 19 5.broken 50;hours 1", "fill 3 9.tips 12", "screw 4 8",
        "screw 12 0;label 3", "label 7;label 12", "quay 0;quay 10;load 5", "load 11;sail;sail;line 1", "sail",
        "sail;hours 72;sail;hours 5;screw 1 1;fill 1 0.tips 3"};

    private static final String NUMBER = "[0-9][0-9]?";
    private static final String COMMAND = "(line " + NUMBER + "|fill " + NUMBER + " [0-9][.](dust|broken|tips) " + NUMBER
            + "|screw " + NUMBER + " [0-9]|label " + NUMBER + "|quay " + NUMBER + "|load " + NUMBER + "|sail|hours "
            + NUMBER + ")";
    private static final Pattern TEXT = Pattern.compile(COMMAND + "(;" + COMMAND + ")*", Pattern.DOTALL);

    private static boolean isWhole(String text) {
        return TEXT.matcher(text).matches();
    }

    private static boolean canGoOn(String text) {
        Matcher matcher = TEXT.matcher(text);
        return matcher.matches() || matcher.hitEnd();
    }

    private static int errorPosition(String text) {
        int position = 0;
        while (position < text.length() && canGoOn(text.substring(0, position + 1))) {
            position++;
        }
        return position;
    }

    /** A text that is correct is carried out or refused, and any other has its error position. */
    private static void readAsItIsDue(String text) {
        if (text.length() > 60) {
            return;
        }
        if (!isWhole(text)) {
            due(-100 - errorPosition(text), () -> perform(new TeaChests(), text));
            return;
        }
        String answered = answer(() -> perform(new TeaChests(), text));
        due(true, () -> answered.equals(REFUSED) || answered.equals("" + text.split(";").length));
    }

    @Says(ERROR_POSITION)
    private static void oneCharacterTooManyTooFewOrOther() {
        for (String text : TEXTS) {
            for (int at = 0; at < text.length(); at++) {
                String ahead = text.substring(0, at);
                readAsItIsDue(ahead + text.substring(at + 1));
                for (char sign : "09 .;lsdbtx".toCharArray()) {
                    readAsItIsDue(ahead + sign + text.substring(at));
                    readAsItIsDue(ahead + sign + text.substring(at + 1));
                }
            }
        }
    }

    @Says(ERROR_POSITION)
    private static void whatMustStandBetweenIsMissing() {
        due(-104, () -> perform(new TeaChests(), "sailsail"));
        due(-106, () -> perform(new TeaChests(), "line 0line 1"));
        due(-107, () -> perform(new TeaChests(), "fill 011.dust 1"));
        due(-108, () -> perform(new TeaChests(), "fill 0 1dust 1"));
        due(-109, () -> perform(new TeaChests(), "fill 0 1. 1"));
        due(-110, () -> perform(new TeaChests(), "fill 0 1.d 1"));
        due(-113, () -> perform(new TeaChests(), "fill 0 1.dust1"));
        due(-108, () -> perform(new TeaChests(), "screw 011"));
        due(-104, () -> perform(new TeaChests(), "line0"));
        due(-105, () -> perform(new TeaChests(), "hours0"));
    }

    @Says(ERROR_POSITION)
    private static void textsThatEndTooEarly() {
        for (String text : TEXTS) {
            for (int end = 0; end < text.length(); end++) {
                String begun = text.substring(0, end);
                if (!isWhole(begun)) {
                    due(-100 - end, () -> perform(new TeaChests(), begun));
                }
            }
        }
    }

    @Says(ERROR_POSITION)
    private static void theFirstCharacterThatCannotGoOn() {
        for (String text : TEXTS) {
            for (int end = 0; end <= text.length(); end++) {
                String begun = text.substring(0, end);
                int position = end;
                for (char sign : new char[] {'!', 'A', (char) 0, (char) 233, (char) 0xffff}) {
                    due(-100 - position, () -> perform(new TeaChests(), begun + sign));
                    due(-100 - position, () -> perform(new TeaChests(), begun + sign + sign));
                }
            }
        }
    }

    @Says(ERROR_POSITION)
    private static void wordsThatBeginAlike() {
        // line, label and load, as well as sail and screw, and quay beside them.
        String[] broken = {"s", "sa", "sai", "sc", "scr", "scre", "screw", "l", "li", "lin", "line", "la", "lab", "labe",
            "label", "lo", "loa", "load"};
        for (String word : broken) {
            due(-100 - word.length(), () -> perform(new TeaChests(), word));
            due(-100 - word.length(), () -> perform(new TeaChests(), word + "x"));
            due(-107 - word.length(), () -> perform(new TeaChests(), "line 0;" + word + "x"));
        }
        due(-102, () -> perform(new TeaChests(), "sarew 0 1"));
        due(-102, () -> perform(new TeaChests(), "scil"));
        due(-102, () -> perform(new TeaChests(), "lobel 0"));
        due(-102, () -> perform(new TeaChests(), "laad 0"));
        due(-102, () -> perform(new TeaChests(), "liad 0"));
        due(-111, () -> perform(new TeaChests(), "fill 0 1.brust 1"));
    }

    // ---- details

    @Says("Leaves that are put into a damp chest become as damp.")
    private static void leavesBecomeAsDamp() {
        TeaChests x = stocked();
        x.setHumidity(9);
        int chest = filled(x, 2, TIPS, 1);
        x.pass(10);
        x.fill(chest, 1, TIPS, 19);
        due(10, () -> x.chest(chest, 6));
        due(50, () -> x.worth(chest));
        x.pass(1);
        due(11, () -> x.chest(chest, 6));
    }

    @Says("Taking out screws leaves the label.")
    private static void takingOutScrewsLeavesTheLabel() {
        TeaChests x = stocked();
        int chest = ready(x, 1, TIPS, 4);
        due(3, () -> x.unscrew(chest));
        due("1.tips 4", () -> labelOf(x, chest));
        due(0, () -> x.unscrew(chest));
        due("1.tips 4", () -> labelOf(x, chest));
        x.screw(chest, 8);
        due("1.tips 4", () -> labelOf(x, chest));
        due(1, () -> x.toQuay(chest));
    }

    @Says("Of the damp, the product is divided.")
    private static void theProductIsDivided() {
        TeaChests x = stocked();
        x.setHumidity(5);
        // Divided ahead of the product, 7 / 20 and 19 / 20 would be 0.
        int chest = filled(x, 1, DUST, 7);
        x.pass(19);
        due(1, () -> x.worth(chest));
        int large = filled(x, 5, TIPS, 39);
        x.pass(1);
        due(0, () -> x.worth(chest));
        due(116, () -> x.worth(large));
    }

    @Says("A chest that is gone keeps its leaves and its worth.")
    private static void aChestThatIsGoneKeepsItsLeaves() {
        TeaChests x = stocked();
        x.setHumidity(9);
        int chest = filled(x, 2, BROKEN, 15);
        x.pass(11);
        finish(x, chest);
        x.load(chest);
        int worth = x.worth(chest);
        due(22, () -> worth);
        x.sail();
        x.pass(72);
        int[] numbers = {2, 1, BROKEN, 15, 1, 4, 11, 1, 3, 16};
        for (int what = 0; what < numbers.length; what++) {
            int asking = what;
            due(numbers[what], () -> x.chest(chest, asking));
        }
        due(22, () -> x.worth(chest));
    }

    @Says("Chests without leaves are ranked, too.")
    private static void chestsWithoutLeavesAreRanked() {
        TeaChests x = stocked();
        x.make(1);
        x.make(5);
        due(0, () -> x.ranked(0));
        due(1, () -> x.ranked(1));
        x.fill(1, 1, DUST, 1);
        due(1, () -> x.ranked(0));
        due(0, () -> x.ranked(1));
        thrown(NONE, x, () -> x.ranked(2));
    }

    @Says("An object is used for at most 512 calls after it has been made; what later calls answer is free.")
    private static void itHoldsFor512Calls() {
        TeaChests x = new TeaChests();
        for (int call = 1; call <= 509; call++) {
            x.pass(72);
        }
        due(3, () -> x.heightAgain(99));
        due(3, () -> x.height(99));
        due(36648, () -> x.account(0));
        TeaChests y = new TeaChests();
        for (int call = 1; call <= 511; call++) {
            y.buy(call % 2 == 0, 99);
        }
        due(7, y::undo);
    }
}
