/** What README.md says under "Use". */
public final class ReadmeTests extends Asking {
    private static final String TEXT = "line 0;fill 0 3.tips 20;screw 0 4;label 0;quay 0;load 0;sail";

    public static void main(String[] args) {
        run(ReadmeTests.class);
    }

    private static void theFirstChest() {
        TeaChests house = new TeaChests();
        due(10, () -> house.account(6));
        due(20, () -> house.account(7));
        due(0, () -> house.account(1));
        due(0, () -> house.account(8));
        due(30, () -> house.bring(3, 2, 30));
        due(0, () -> house.make(2));
        due(6, () -> house.line(0));
        due(0, () -> house.fill(0, 3, 2, 20));
        due(true, () -> house.screw(0, 4));
        due(9, () -> house.label(0));
        due("3.tips 20", () -> labelOf(house, 0));
        due(1, () -> house.toQuay(0));
        due(10, () -> house.load(0));
        due(60, house::sail);
    }

    private static void theSameAsAText() {
        TeaChests house = new TeaChests();
        house.bring(3, 2, 30);
        house.make(2);
        due(7, () -> perform(house, TEXT));
        due(60, () -> house.account(14));
        due(60, TEXT::length);
        due("3.tips 20", () -> labelOf(house, 0));
        // All of it is one change, and it can be made again behind a snapshot.
        due(2, house::undo);
        due(0, () -> house.account(14));
        house.save();
        for (int i = 0; i < 3; i++) {
            due(7, () -> perform(house, TEXT));
            due(60, () -> house.account(14));
            house.restore();
        }
    }

    private static void whatIsNotAllowed() {
        TeaChests house = new TeaChests();
        thrown(INDEX, house, () -> house.bring(6, 2, 30));
        thrown(ARGUMENT, house, () -> house.bring(3, 2, 501));
        house.make(2);
        refused(house, 10, 0, () -> house.label(0));
        feed(house, TEXT);
        refused(house, 19, 1, house::perform);
        due(-103, () -> perform(house, "saip"));
    }
}
