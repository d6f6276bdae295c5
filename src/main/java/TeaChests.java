import java.util.NoSuchElementException;

/**
 * Packers of tea chests at a harbour. The public methods look at the arguments and keep the changes that can be
 * taken back; the rules of the harbour itself are in House and Chest, the form of command texts in CommandText.
 */
public final class TeaChests {
    private static final int GARDENS = 6;
    private static final int TIPS = 2;
    private static final Kind[] KINDS = Kind.values();
    private static final Verb[] VERBS = Verb.values();

    private static final int MOST_POUNDS_STORED = 500;
    private static final int MOST_POUNDS_FILLED = 50;
    private static final int MOST_SHEETS_OR_SCREWS = 200;
    private static final int MOST_BOUGHT = 99;
    private static final int MOST_CHESTS = 20;
    private static final int MOST_SIZE = 5;
    private static final int MOST_SCREWS_IN_CHEST = 8;
    private static final int MOST_DAMP = 20;
    private static final int MOST_HUMIDITY = 9;
    private static final int HUMID = 5;
    private static final int SHIP_ROOM = 12;
    private static final int TIDE_PERIOD = 12;
    private static final int HIGH_WATER = 6;
    private static final int LEAST_HEIGHT_TO_REACH = 3;
    private static final int MOST_HOURS_AHEAD = 99;
    private static final int MOST_HOURS_PASSED = 72;
    private static final int MOST_CHANGES = 8;
    private static final int MOST_SIGNS = 60;
    private static final int SYNTAX_ERROR = -100;

    private static final int NOT_MADE = -1;
    private static final int IN_HOUSE = 0;
    private static final int ON_QUAY = 1;
    private static final int ON_SHIP = 2;
    private static final int GONE = 3;

    private static final int AS_MANY_AS_CAN_BE = 1;
    private static final int STORE_FULL = 2;
    private static final int NOT_IN_HOUSE = 3;
    private static final int HAS_SCREWS = 4;
    private static final int IS_LINED = 5;
    private static final int TOO_FEW_SHEETS = 6;
    private static final int OTHER_LEAVES = 7;
    private static final int TOO_LITTLE_ROOM = 8;
    private static final int TOO_FEW_POUNDS = 9;
    private static final int IS_EMPTY = 10;
    private static final int TOO_FEW_SCREWS = 11;
    private static final int TOO_MANY_SCREWS = 12;
    private static final int NOT_TIGHT = 13;
    private static final int NO_LABEL = 14;
    private static final int NOT_ON_QUAY = 15;
    private static final int SHIP_NOT_REACHED = 16;
    private static final int SHIP_FULL = 17;
    private static final int SHIP_EMPTY = 18;
    private static final int COMMAND_FAILED = 19;

    private final House house = new House();
    private final House saved = new House();
    private boolean isSaved = false;
    private final History history = new History();
    private final CommandText text = new CommandText();

    public TeaChests() {
    }

    // ---- leaves, lead, screws

    public int bring(int garden, int kind, int pounds)
            throws IndexOutOfBoundsException, IllegalArgumentException, UnsupportedOperationException {
        needLeaf(garden, kind);
        needRange(pounds, 1, MOST_POUNDS_STORED);
        history.prepare(house);
        conclude(house.tryBring(garden, kind, pounds));
        return house.stored(garden, kind);
    }

    public int leaves(int garden, int kind) throws IndexOutOfBoundsException {
        needLeaf(garden, kind);
        return house.stored(garden, kind);
    }

    public int bestGarden() {
        int best = 0;
        for (int garden = 1; garden < GARDENS; garden++) {
            if (house.isBetterGarden(garden, best)) {
                best = garden;
            }
        }
        return best;
    }

    public int buy(boolean areScrews, int many) throws IllegalArgumentException {
        needRange(many, 1, MOST_BOUGHT);
        keepChange();
        if (areScrews) {
            house.addScrews(many);
            return house.screws;
        }
        house.addSheets(many);
        return house.sheets;
    }

    // ---- chests

    public int make(int size) throws IllegalArgumentException, UnsupportedOperationException {
        needRange(size, 1, MOST_SIZE);
        history.prepare(house);
        conclude(house.tryMake(size));
        return house.made - 1;
    }

    public int line(int chest) throws IndexOutOfBoundsException, UnsupportedOperationException {
        Chest lined = needChest(chest);
        history.prepare(house);
        conclude(house.tryLine(lined));
        return house.sheets;
    }

    public int fill(int chest, int garden, int kind, int pounds)
            throws IndexOutOfBoundsException, IllegalArgumentException, UnsupportedOperationException {
        Chest filled = needChest(chest);
        needLeaf(garden, kind);
        needRange(pounds, 1, MOST_POUNDS_FILLED);
        history.prepare(house);
        conclude(house.tryFill(filled, garden, kind, pounds));
        return filled.room();
    }

    public int empty(int chest) throws IndexOutOfBoundsException, UnsupportedOperationException {
        Chest emptied = needChest(chest);
        int pounds = emptied.pounds;
        history.prepare(house);
        conclude(house.tryEmpty(emptied));
        return pounds;
    }

    public boolean screw(int chest, int screws)
            throws IndexOutOfBoundsException, IllegalArgumentException, UnsupportedOperationException {
        Chest screwed = needChest(chest);
        needRange(screws, 1, MOST_SCREWS_IN_CHEST);
        history.prepare(house);
        conclude(house.tryScrew(screwed, screws));
        return screwed.isTight();
    }

    public int unscrew(int chest) throws IndexOutOfBoundsException, UnsupportedOperationException {
        Chest unscrewed = needChest(chest);
        int screws = unscrewed.screws;
        history.prepare(house);
        conclude(house.tryUnscrew(unscrewed));
        return screws;
    }

    public int label(int chest) throws IndexOutOfBoundsException, UnsupportedOperationException {
        Chest named = needChest(chest);
        history.prepare(house);
        conclude(house.tryLabel(named));
        return named.label.length();
    }

    public char labelled(int chest, int index) throws IndexOutOfBoundsException, NoSuchElementException {
        String label = needChest(chest).label;
        if (index < 0 || index >= label.length()) {
            throw new NoSuchElementException("no such character of a label");
        }
        return label.charAt(index);
    }

    public int chest(int chest, int what) throws IndexOutOfBoundsException, IllegalArgumentException {
        Chest asked = needChest(chest);
        switch (what) {
            case 0: return asked.size;
            case 1: return asked.garden;
            case 2: return asked.kind;
            case 3: return asked.pounds;
            case 4: return asked.isLined ? 1 : 0;
            case 5: return asked.screws;
            case 6: return asked.damp;
            case 7: return asked.isTight() ? 1 : 0;
            case 8: return asked.where;
            case 9: return asked.label.length();
            default: throw new IllegalArgumentException("no such number of a chest");
        }
    }

    public int worth(int chest) throws IndexOutOfBoundsException {
        return needChest(chest).coins();
    }

    public int ranked(int place) throws NoSuchElementException {
        int chest = house.chestAtPlace(place);
        if (chest < 0) {
            throw new NoSuchElementException("no such place");
        }
        return chest;
    }

    // ---- the quay, the ship

    public int toQuay(int chest) throws IndexOutOfBoundsException, UnsupportedOperationException {
        Chest carried = needChest(chest);
        history.prepare(house);
        conclude(house.tryToQuay(carried));
        return house.chestsAt(ON_QUAY);
    }

    public int load(int chest) throws IndexOutOfBoundsException, UnsupportedOperationException {
        Chest loaded = needChest(chest);
        history.prepare(house);
        conclude(house.tryLoad(loaded));
        return house.shipRoom();
    }

    public int sail() throws UnsupportedOperationException {
        int coins = house.shipCoins();
        history.prepare(house);
        conclude(house.trySail());
        return coins;
    }

    public int cargo() {
        return house.shipCoins();
    }

    public int height(int hours) throws IllegalArgumentException {
        needRange(hours, 0, MOST_HOURS_AHEAD);
        return house.heightIn(hours);
    }

    public int heightAgain(int hours) throws IllegalArgumentException {
        needRange(hours, 0, MOST_HOURS_AHEAD);
        int hour = house.clock + hours;
        int water = HIGH_WATER;
        int change = -1;
        for (int past = 0; past < hour; past++) {
            if (water == 0) {
                change = 1;
            } else if (water == HIGH_WATER) {
                change = -1;
            }
            water += change;
        }
        return water;
    }

    public int reachedIn() {
        int hours = 0;
        while (hours < TIDE_PERIOD && house.heightIn(hours) < LEAST_HEIGHT_TO_REACH) {
            hours++;
        }
        return hours;
    }

    // ---- hours

    public int setHumidity(int humidity) throws IllegalArgumentException {
        needRange(humidity, 0, MOST_HUMIDITY);
        int before = house.humidity;
        keepChange();
        house.humidity = humidity;
        return before;
    }

    public int pass(int hours) throws IllegalArgumentException {
        needRange(hours, 1, MOST_HOURS_PASSED);
        keepChange();
        house.letPass(hours);
        return house.heightIn(0);
    }

    // ---- means, reasons, accounts

    public boolean isWell() {
        int accounted = house.poundsStored() + house.poundsInChests() + house.poundsSailed + house.poundsThrown;
        return accounted == house.poundsBrought && house.isOutsideInOrder();
    }

    public double meanDamp() throws ArithmeticException {
        int filled = house.filledChests();
        if (filled == 0) {
            throw new ArithmeticException("no chests with leaves");
        }
        return (double) house.sumOfDamp() / (double) filled;
    }

    public float sailedShare() throws ArithmeticException {
        if (house.poundsBrought == 0) {
            throw new ArithmeticException("nothing was brought");
        }
        return (float) house.poundsSailed / (float) house.poundsBrought;
    }

    public int reason(boolean isDetail) throws NoSuchElementException {
        if (house.reason == 0) {
            throw new NoSuchElementException("nothing was refused");
        }
        return isDetail ? house.detail : house.reason;
    }

    public int account(int what) throws IllegalArgumentException {
        switch (what) {
            case 0: return house.clock;
            case 1: return house.poundsStored();
            case 2: return house.poundsInChests();
            case 3: return house.poundsSailed;
            case 4: return house.poundsThrown;
            case 5: return house.poundsBrought;
            case 6: return house.sheets;
            case 7: return house.screws;
            case 8: return house.made;
            case 9: return house.chestsAt(IN_HOUSE);
            case 10: return house.chestsAt(ON_QUAY);
            case 11: return house.chestsAt(ON_SHIP);
            case 12: return house.shipRoom();
            case 13: return house.shipsSailed;
            case 14: return house.coins;
            case 15: return house.humidity;
            case 16: return text.length;
            case 17: return history.changes;
            default: throw new IllegalArgumentException("no such account");
        }
    }

    // ---- commands, undo and snapshots

    public int feed(char letter) throws IllegalStateException {
        if (!text.append(letter)) {
            throw new IllegalStateException("the input buffer is full");
        }
        return text.length;
    }

    public int perform() throws UnsupportedOperationException {
        int commands = text.countCommands();
        if (commands < 0) {
            text.clear();
            return commands;
        }
        history.prepare(house);
        int carriedOut = carryOutAll(commands);
        text.clear();
        if (carriedOut < commands) {
            history.dropPrepared(house);
            house.refuse(COMMAND_FAILED, carriedOut);
        }
        conclude(carriedOut == commands);
        return commands;
    }

    public int undo() throws IllegalStateException {
        if (!history.takeBack(house)) {
            throw new IllegalStateException("there is no change to take back");
        }
        return history.changes;
    }

    public int save() {
        saved.copyFrom(house);
        isSaved = true;
        return house.clock;
    }

    public int restore() throws IllegalStateException {
        if (!isSaved) {
            throw new IllegalStateException("nothing was saved");
        }
        house.copyFrom(saved);
        history.forget();
        return house.clock;
    }

    // ---- what the public methods share

    private static boolean isWithin(int value, int least, int most) {
        return value >= least && value <= most;
    }

    private static void needRange(int value, int least, int most) {
        if (!isWithin(value, least, most)) {
            throw new IllegalArgumentException("a number is out of range");
        }
    }

    private static void needLeaf(int garden, int kind) {
        if (!House.isLeaf(garden, kind)) {
            throw new IndexOutOfBoundsException("no such garden or kind");
        }
    }

    private Chest needChest(int number) {
        Chest found = house.find(number);
        if (found == null) {
            throw new IndexOutOfBoundsException("no such chest");
        }
        return found;
    }

    private void keepChange() {
        history.prepare(house);
        history.commit();
    }

    /** Ends a change that the house has tried: what was prepared is kept only if the change was made. */
    private void conclude(boolean isDone) {
        if (!isDone) {
            throw new UnsupportedOperationException("refused");
        }
        history.commit();
    }

    /** Carries out the commands of the text up to the first that cannot be; answers how many it has carried out. */
    private int carryOutAll(int commands) {
        text.rewind();
        for (int command = 0; command < commands; command++) {
            if (!text.readCommand() || !carryOutRead()) {
                return command;
            }
            text.readSign(';');
        }
        return commands;
    }

    private boolean carryOutRead() {
        Verb verb = text.verb;
        if (verb == Verb.SAIL) {
            return house.trySail();
        }
        if (verb == Verb.HOURS) {
            return isWithin(text.many, 1, MOST_HOURS_PASSED) && house.letPass(text.many);
        }
        Chest meant = house.find(text.chest);
        if (verb == null || meant == null) {
            return false;
        }
        switch (verb) {
            case LINE:
                return house.tryLine(meant);
            case FILL:
                return House.isLeaf(text.garden, text.kind) && isWithin(text.many, 1, MOST_POUNDS_FILLED)
                        && house.tryFill(meant, text.garden, text.kind, text.many);
            case SCREW:
                return isWithin(text.many, 1, MOST_SCREWS_IN_CHEST) && house.tryScrew(meant, text.many);
            case LABEL:
                return house.tryLabel(meant);
            case QUAY:
                return house.tryToQuay(meant);
            case LOAD:
                return house.tryLoad(meant);
            default:
                return false;
        }
    }

    /** The kinds of leaves, in the order of their numbers. */
    private enum Kind {
        DUST("dust"),
        BROKEN("broken"),
        TIPS("tips");

        final String word;

        Kind(String word) {
            this.word = word;
        }
    }

    /** What a command begins with. No word is the beginning of another, so the reader never has to go back. */
    private enum Verb {
        LINE("line "),
        FILL("fill "),
        SCREW("screw "),
        LABEL("label "),
        QUAY("quay "),
        LOAD("load "),
        SAIL("sail"),
        HOURS("hours ");

        final String word;

        Verb(String word) {
            this.word = word;
        }
    }

    private static final class Chest {
        final int number;
        int size;
        int garden = -1;
        int kind = -1;
        int pounds;
        boolean isLined;
        int screws;
        int damp;
        int where = NOT_MADE;
        String label = "";

        Chest(int number) {
            this.number = number;
        }

        void copyFrom(Chest other) {
            size = other.size;
            garden = other.garden;
            kind = other.kind;
            pounds = other.pounds;
            isLined = other.isLined;
            screws = other.screws;
            damp = other.damp;
            where = other.where;
            label = other.label;
        }

        int room() {
            return 10 * size - pounds;
        }

        boolean isThere() {
            return where != NOT_MADE && where != GONE;
        }

        boolean isTight() {
            return isLined && screws >= size + 2;
        }

        boolean hasLabel() {
            return !label.isEmpty();
        }

        int coins() {
            return pounds * (kind + 1) - pounds * damp / MOST_DAMP;
        }

        void putIn(int newGarden, int newKind, int newPounds) {
            garden = newGarden;
            kind = newKind;
            pounds += newPounds;
            label = "";
        }

        void takeAllOut() {
            garden = -1;
            kind = -1;
            pounds = 0;
            damp = 0;
            label = "";
        }

        /** The damp is written as it is now: the label does not change when the chest gets damp behind it. */
        void writeLabel() {
            if (kind < 0 || kind >= KINDS.length) {
                return;
            }
            StringBuilder built = new StringBuilder();
            built.append(garden).append('.').append(KINDS[kind].word).append(' ').append(pounds);
            if (damp >= 1) {
                built.append(" damp");
            }
            label = built.toString();
        }

        void becomeDamper() {
            if (where == IN_HOUSE && pounds > 0 && !isTight() && damp < MOST_DAMP) {
                damp++;
            }
        }

        boolean ranksBefore(Chest other) {
            if (coins() != other.coins()) {
                return coins() > other.coins();
            }
            if (damp != other.damp) {
                return damp < other.damp;
            }
            return number < other.number;
        }
    }

    /**
     * Everything that a change can alter and that is saved. A method named try.. either does what it says and
     * answers true, or leaves all as it is, keeps the reason, and answers false.
     */
    private static final class House {
        private final int[] store = new int[GARDENS * KINDS.length];
        private final Chest[] chests = new Chest[MOST_CHESTS];
        int made;
        int sheets = 10;
        int screws = 20;
        int clock;
        int humidity = 4;
        int coins;
        int shipsSailed;
        int poundsBrought;
        int poundsSailed;
        int poundsThrown;
        // These two stay as they are when changes are taken back or restored, so copyFrom leaves them out.
        int reason;
        int detail;

        House() {
            for (int number = 0; number < chests.length; number++) {
                chests[number] = new Chest(number);
            }
        }

        void copyFrom(House other) {
            System.arraycopy(other.store, 0, store, 0, store.length);
            for (int number = 0; number < chests.length; number++) {
                chests[number].copyFrom(other.chests[number]);
            }
            made = other.made;
            sheets = other.sheets;
            screws = other.screws;
            clock = other.clock;
            humidity = other.humidity;
            coins = other.coins;
            shipsSailed = other.shipsSailed;
            poundsBrought = other.poundsBrought;
            poundsSailed = other.poundsSailed;
            poundsThrown = other.poundsThrown;
        }

        // ---- the store

        static boolean isLeaf(int garden, int kind) {
            return garden >= 0 && garden < GARDENS && kind >= 0 && kind < KINDS.length;
        }

        int stored(int garden, int kind) {
            return isLeaf(garden, kind) ? store[garden * KINDS.length + kind] : 0;
        }

        private void addToStore(int garden, int kind, int pounds) {
            if (isLeaf(garden, kind)) {
                store[garden * KINDS.length + kind] += pounds;
            }
        }

        private int storedOf(int garden) {
            int sum = 0;
            for (int kind = 0; kind < KINDS.length; kind++) {
                sum += stored(garden, kind);
            }
            return sum;
        }

        boolean isBetterGarden(int garden, int other) {
            int all = storedOf(garden);
            int allOther = storedOf(other);
            return all > allOther || all == allOther && stored(garden, TIPS) > stored(other, TIPS);
        }

        int poundsStored() {
            int sum = 0;
            for (int garden = 0; garden < GARDENS; garden++) {
                sum += storedOf(garden);
            }
            return sum;
        }

        boolean tryBring(int garden, int kind, int pounds) {
            int there = stored(garden, kind);
            if (there + pounds > MOST_POUNDS_STORED) {
                return refuse(STORE_FULL, there);
            }
            addToStore(garden, kind, pounds);
            poundsBrought += pounds;
            return true;
        }

        void addSheets(int many) {
            sheets = Math.min(MOST_SHEETS_OR_SCREWS, sheets + many);
        }

        void addScrews(int many) {
            screws = Math.min(MOST_SHEETS_OR_SCREWS, screws + many);
        }

        // ---- what is refused: each of these answers true if its reason does not apply

        /** Always answers false, so that a check can end with it. */
        boolean refuse(int newReason, int newDetail) {
            reason = newReason;
            detail = newDetail;
            return false;
        }

        private boolean isInHouse(Chest chest) {
            return chest.where == IN_HOUSE || refuse(NOT_IN_HOUSE, chest.where);
        }

        private boolean isUnscrewed(Chest chest) {
            return chest.screws == 0 || refuse(HAS_SCREWS, chest.screws);
        }

        private boolean isUnlined(Chest chest) {
            return !chest.isLined || refuse(IS_LINED, chest.size);
        }

        private boolean hasSheets(int many) {
            return sheets >= many || refuse(TOO_FEW_SHEETS, sheets);
        }

        private boolean hasNoOtherLeaves(Chest chest, int garden, int kind) {
            return chest.pounds == 0 || chest.garden == garden && chest.kind == kind
                    || refuse(OTHER_LEAVES, 10 * chest.garden + chest.kind);
        }

        private boolean hasRoom(Chest chest, int pounds) {
            return chest.room() >= pounds || refuse(TOO_LITTLE_ROOM, chest.room());
        }

        private boolean hasPounds(int garden, int kind, int pounds) {
            return stored(garden, kind) >= pounds || refuse(TOO_FEW_POUNDS, stored(garden, kind));
        }

        private boolean isFilled(Chest chest) {
            return chest.pounds > 0 || refuse(IS_EMPTY, chest.number);
        }

        private boolean hasScrews(int many) {
            return screws >= many || refuse(TOO_FEW_SCREWS, screws);
        }

        private boolean takesScrews(Chest chest, int many) {
            return chest.screws + many <= MOST_SCREWS_IN_CHEST || refuse(TOO_MANY_SCREWS, chest.screws);
        }

        private boolean isReadyForQuay(Chest chest) {
            if (!chest.isTight()) {
                return refuse(NOT_TIGHT, chest.number);
            }
            return chest.hasLabel() || refuse(NO_LABEL, chest.number);
        }

        private boolean isOnQuay(Chest chest) {
            return chest.where == ON_QUAY || refuse(NOT_ON_QUAY, chest.where);
        }

        private boolean isShipReached() {
            return heightIn(0) >= LEAST_HEIGHT_TO_REACH || refuse(SHIP_NOT_REACHED, heightIn(0));
        }

        private boolean hasShipRoom(int size) {
            return shipRoom() >= size || refuse(SHIP_FULL, shipRoom());
        }

        private boolean isShipLoaded() {
            return chestsAt(ON_SHIP) > 0 || refuse(SHIP_EMPTY, 0);
        }

        // ---- chests

        /** The chest with this number, or null if there is none. */
        Chest find(int number) {
            return number >= 0 && number < made && number < chests.length ? chests[number] : null;
        }

        boolean tryMake(int size) {
            if (made >= chests.length) {
                return refuse(AS_MANY_AS_CAN_BE, made);
            }
            chests[made].size = size;
            chests[made].where = IN_HOUSE;
            made++;
            return true;
        }

        boolean tryLine(Chest chest) {
            int needed = 2 * chest.size;
            if (!isInHouse(chest) || !isUnscrewed(chest) || !isUnlined(chest) || !hasSheets(needed)) {
                return false;
            }
            sheets -= needed;
            chest.isLined = true;
            return true;
        }

        boolean tryFill(Chest chest, int garden, int kind, int pounds) {
            if (!isInHouse(chest) || !isUnscrewed(chest) || !hasNoOtherLeaves(chest, garden, kind)
                    || !hasRoom(chest, pounds) || !hasPounds(garden, kind, pounds)) {
                return false;
            }
            addToStore(garden, kind, -pounds);
            chest.putIn(garden, kind, pounds);
            return true;
        }

        boolean tryEmpty(Chest chest) {
            if (!isInHouse(chest) || !isUnscrewed(chest) || !isFilled(chest)) {
                return false;
            }
            int space = MOST_POUNDS_STORED - stored(chest.garden, chest.kind);
            int back = Math.min(space, chest.pounds);
            addToStore(chest.garden, chest.kind, back);
            poundsThrown += chest.pounds - back;
            chest.takeAllOut();
            return true;
        }

        boolean tryScrew(Chest chest, int many) {
            if (!isInHouse(chest) || !isFilled(chest) || !hasScrews(many) || !takesScrews(chest, many)) {
                return false;
            }
            screws -= many;
            chest.screws += many;
            return true;
        }

        boolean tryUnscrew(Chest chest) {
            if (!isInHouse(chest)) {
                return false;
            }
            addScrews(chest.screws);
            chest.screws = 0;
            return true;
        }

        boolean tryLabel(Chest chest) {
            if (!isInHouse(chest) || !isFilled(chest)) {
                return false;
            }
            chest.writeLabel();
            return true;
        }

        /** The number of the chest at a place of the ranking, or -1 if there is no such place. */
        int chestAtPlace(int place) {
            for (Chest chest : chests) {
                if (chest.isThere() && placeOf(chest) == place) {
                    return chest.number;
                }
            }
            return -1;
        }

        private int placeOf(Chest chest) {
            int before = 0;
            for (Chest other : chests) {
                if (other.isThere() && other.ranksBefore(chest)) {
                    before++;
                }
            }
            return before;
        }

        int chestsAt(int where) {
            int many = 0;
            for (Chest chest : chests) {
                if (chest.where == where) {
                    many++;
                }
            }
            return many;
        }

        int poundsInChests() {
            int sum = 0;
            for (Chest chest : chests) {
                if (chest.isThere()) {
                    sum += chest.pounds;
                }
            }
            return sum;
        }

        int filledChests() {
            int many = 0;
            for (Chest chest : chests) {
                if (chest.isThere() && chest.pounds > 0) {
                    many++;
                }
            }
            return many;
        }

        /** Chests without leaves have the damp 0, so only those with leaves count here. */
        int sumOfDamp() {
            int sum = 0;
            for (Chest chest : chests) {
                if (chest.isThere()) {
                    sum += chest.damp;
                }
            }
            return sum;
        }

        // ---- the quay, the ship

        boolean tryToQuay(Chest chest) {
            if (!isInHouse(chest) || !isFilled(chest) || !isReadyForQuay(chest)) {
                return false;
            }
            chest.where = ON_QUAY;
            return true;
        }

        boolean tryLoad(Chest chest) {
            if (!isOnQuay(chest) || !isShipReached() || !hasShipRoom(chest.size)) {
                return false;
            }
            chest.where = ON_SHIP;
            return true;
        }

        /** The reasons are looked at in the order of the document's list, 16 ahead of 18. */
        boolean trySail() {
            if (!isShipReached() || !isShipLoaded()) {
                return false;
            }
            coins += shipCoins();
            for (Chest chest : chests) {
                if (chest.where == ON_SHIP) {
                    chest.where = GONE;
                    poundsSailed += chest.pounds;
                }
            }
            shipsSailed++;
            return true;
        }

        int shipRoom() {
            int room = SHIP_ROOM;
            for (Chest chest : chests) {
                if (chest.where == ON_SHIP) {
                    room -= chest.size;
                }
            }
            return room;
        }

        int shipCoins() {
            int sum = 0;
            for (Chest chest : chests) {
                if (chest.where == ON_SHIP) {
                    sum += chest.coins();
                }
            }
            return sum;
        }

        boolean isOutsideInOrder() {
            for (Chest chest : chests) {
                boolean isOutside = chest.where == ON_QUAY || chest.where == ON_SHIP;
                if (isOutside && !(chest.isTight() && chest.hasLabel())) {
                    return false;
                }
            }
            return true;
        }

        // ---- hours

        int heightIn(int hours) {
            return Math.abs(HIGH_WATER - (clock + hours) % TIDE_PERIOD);
        }

        /** Answers true always, as what is tried does when it is done. */
        boolean letPass(int hours) {
            for (int hour = 0; hour < hours; hour++) {
                clock++;
                if (humidity >= HUMID) {
                    letDampIn();
                }
            }
            return true;
        }

        private void letDampIn() {
            for (Chest chest : chests) {
                chest.becomeDamper();
            }
        }
    }

    /**
     * The states ahead of the latest changes, in a ring. One row more than there are changes is spare: it takes the
     * state ahead of a change that may yet be refused, without the loss of an older one.
     */
    private static final class History {
        private static final int ROWS = MOST_CHANGES + 1;

        private final House[] rows = new House[ROWS];
        private int committed;
        int changes;

        History() {
            for (int row = 0; row < rows.length; row++) {
                rows[row] = new House();
            }
        }

        private House spareRow() {
            return rows[Math.floorMod(committed, ROWS)];
        }

        void prepare(House house) {
            spareRow().copyFrom(house);
        }

        void commit() {
            committed++;
            changes = Math.min(MOST_CHANGES, changes + 1);
        }

        void dropPrepared(House house) {
            house.copyFrom(spareRow());
        }

        boolean takeBack(House house) {
            if (changes == 0) {
                return false;
            }
            changes--;
            committed--;
            house.copyFrom(spareRow());
            return true;
        }

        void forget() {
            changes = 0;
        }
    }

    /** The input buffer, and a reader that goes over it. Where reading fails, the reader stays at the error position. */
    private static final class CommandText {
        /** Like no sign, so that nothing that is looked for is found behind the end of the text. */
        private static final int NO_SIGN = -1;

        private final char[] signs = new char[MOST_SIGNS];
        int length;
        private int at;
        private int farthest;
        // What the command that was read last says; what it does not say is left from an earlier one.
        Verb verb;
        int chest;
        int garden;
        int kind;
        int many;

        boolean append(char sign) {
            if (length >= signs.length) {
                return false;
            }
            signs[length] = sign;
            length++;
            return true;
        }

        void clear() {
            length = 0;
        }

        void rewind() {
            at = 0;
        }

        /** The number of commands in the text, or -100 minus the error position. */
        int countCommands() {
            rewind();
            for (int commands = 1; commands <= MOST_SIGNS; commands++) {
                if (!readCommand()) {
                    return SYNTAX_ERROR - at;
                }
                if (at == length) {
                    return commands;
                }
                if (!readSign(';')) {
                    return SYNTAX_ERROR - at;
                }
            }
            return SYNTAX_ERROR - at;
        }

        boolean readCommand() {
            verb = readVerb();
            if (verb == null) {
                return false;
            }
            switch (verb) {
                case SAIL: return true;
                case HOURS: return readManyAsNumber();
                case FILL: return readChest() && readSign(' ') && readLeaf() && readSign(' ') && readManyAsNumber();
                case SCREW: return readChest() && readSign(' ') && readManyAsDigit();
                default: return readChest();
            }
        }

        boolean readSign(char sign) {
            if (signAt(at) != sign) {
                return false;
            }
            at++;
            return true;
        }

        private int signAt(int offset) {
            return offset >= 0 && offset < length && offset < signs.length ? signs[offset] : NO_SIGN;
        }

        private boolean readLeaf() {
            garden = readDigit();
            return garden >= 0 && readSign('.') && readKind();
        }

        private boolean readChest() {
            chest = readNumber();
            return chest >= 0;
        }

        private boolean readManyAsNumber() {
            many = readNumber();
            return many >= 0;
        }

        private boolean readManyAsDigit() {
            many = readDigit();
            return many >= 0;
        }

        /** A digit or two, or -1 if there is none. */
        private int readNumber() {
            int first = readDigit();
            if (first < 0) {
                return -1;
            }
            int second = readDigit();
            return second < 0 ? first : 10 * first + second;
        }

        private int readDigit() {
            int sign = signAt(at);
            if (sign < '0' || sign > '9') {
                return -1;
            }
            at++;
            return sign - '0';
        }

        private Verb readVerb() {
            farthest = at;
            for (Verb candidate : VERBS) {
                if (readWord(candidate.word)) {
                    return candidate;
                }
            }
            at = farthest;
            return null;
        }

        private boolean readKind() {
            farthest = at;
            for (int candidate = 0; candidate < KINDS.length; candidate++) {
                if (readWord(KINDS[candidate].word)) {
                    kind = candidate;
                    return true;
                }
            }
            at = farthest;
            return false;
        }

        /** A word that does not stand here may still begin here: the error is where the likest of them breaks off. */
        private boolean readWord(String word) {
            int alike = 0;
            while (alike < word.length() && signAt(at + alike) == word.charAt(alike)) {
                alike++;
            }
            if (alike == word.length()) {
                at += alike;
                return true;
            }
            farthest = Math.max(farthest, at + alike);
            return false;
        }
    }
}
