import java.util.ArrayDeque;
import java.util.Arrays;
import java.util.Random;
import java.util.regex.Matcher;
import java.util.regex.Pattern;

/**
 * Runs of 512 calls at random, with a fixed seed. Each call is also put to a plain second house (Model, below), which
 * holds its state in one row of numbers and reads texts by a regular expression; both must answer the same.
 */
public final class RandomRuns {
    private static final int RUNS = 3000;
    private static final int CALLS = 512;

    public static void main(String[] args) {
        Asking.watch();
        long[] answered = new long[CALLS_BY_NAME.length];
        long[] thrown = new long[CALLS_BY_NAME.length];
        for (int run = 0; run < RUNS; run++) {
            Random random = new Random(run);
            TeaChests x = new TeaChests();
            Model model = new Model();
            StringBuilder told = new StringBuilder();
            for (int call = 0; call < CALLS; call++) {
                int which = chooseCall(random);
                int[] a = chooseArguments(random, which, model);
                String want = model.answer(which, a);
                String got = answer(x, which, a);
                told.append(CALLS_BY_NAME[which]).append(Arrays.toString(a)).append(" -> ").append(got).append('\n');
                if (want.startsWith("throws ")) {
                    thrown[which]++;
                } else {
                    answered[which]++;
                }
                if (!got.equals(want)) {
                    fail(run, told, "the model answers " + want);
                }
                // Looking at all of the state counts as calls too, but what is free is only what is behind the 512th.
                if (call % 8 == 7 && !picture(x).equals(model.picture())) {
                    fail(run, told, "the state is\n" + picture(x) + "\nand the model's\n" + model.picture());
                }
            }
        }
        for (int which = 0; which < CALLS_BY_NAME.length; which++) {
            if (answered[which] < 1000) {
                System.out.println(CALLS_BY_NAME[which] + " was answered only " + answered[which] + " times");
                System.exit(1);
            }
        }
        System.out.println(RUNS + " runs of " + CALLS + " calls answered as the model does");
    }

    private static void fail(int run, StringBuilder told, String why) {
        System.out.println("run " + run + ":\n" + told + why);
        System.exit(1);
    }

    private static final String[] CALLS_BY_NAME = {
        "bring", "leaves", "bestGarden", "buy", "make", "line", "fill", "empty", "screw", "unscrew", "label",
        "labelled", "chest", "worth", "ranked", "toQuay", "load", "sail", "cargo", "height", "heightAgain",
        "reachedIn", "setHumidity", "pass", "isWell", "meanDamp", "sailedShare", "reason", "account", "feed",
        "perform", "undo", "save", "restore"};

    private static final int[] WEIGHTS = {
        12, 2, 3, 8, 5, 12, 16, 3, 16, 3, 14,
        3, 4, 3, 4, 16, 16, 8, 2, 2, 2,
        2, 4, 10, 3, 3, 2, 10, 5, 2,
        12, 5, 1, 1};

    private static int chooseCall(Random random) {
        int all = 0;
        for (int weight : WEIGHTS) {
            all += weight;
        }
        int at = random.nextInt(all);
        int which = 0;
        while (at >= WEIGHTS[which]) {
            at -= WEIGHTS[which];
            which++;
        }
        return which;
    }

    /** Mostly from least to most, now and then just beside it, and seldom far away. */
    private static int near(Random random, int least, int most) {
        int at = random.nextInt(40);
        if (at == 0) {
            return least - 1;
        }
        if (at == 1) {
            return most + 1;
        }
        if (at == 2) {
            return random.nextInt();
        }
        return least + random.nextInt(most - least + 1);
    }

    private static int aChest(Random random, Model model) {
        return near(random, 0, Math.max(0, model.made() - 1));
    }

    private static int[] chooseArguments(Random random, int which, Model model) {
        int garden = random.nextInt(4) == 0 ? near(random, 0, 5) : 0;
        switch (CALLS_BY_NAME[which]) {
            case "bring": return new int[] {garden, near(random, 0, 2), near(random, 1, random.nextBoolean() ? 500 : 60)};
            case "leaves": return new int[] {near(random, 0, 5), near(random, 0, 2)};
            case "buy": return new int[] {random.nextInt(2), near(random, 1, 99)};
            case "make": return new int[] {near(random, 1, random.nextBoolean() ? 2 : 5)};
            case "fill": return new int[] {aChest(random, model), garden, near(random, 0, 2), near(random, 1, random.nextBoolean() ? 9 : 50)};
            case "screw": return new int[] {aChest(random, model), near(random, 1, 8)};
            case "labelled": return new int[] {aChest(random, model), near(random, 0, 13)};
            case "chest": return new int[] {aChest(random, model), near(random, 0, 9)};
            case "line": case "empty": case "unscrew": case "label": case "worth": case "toQuay": case "load":
                return new int[] {aChest(random, model)};
            case "ranked": return aChestOnly(random, model);
            case "height": case "heightAgain": return new int[] {near(random, 0, 99)};
            case "setHumidity": return new int[] {near(random, 0, 9)};
            case "pass": return new int[] {near(random, 1, random.nextInt(8) == 0 ? 72 : 5)};
            case "reason": return new int[] {random.nextInt(2)};
            case "account": return new int[] {near(random, 0, 17)};
            case "feed": return new int[] {random.nextInt(3) == 0 ? random.nextInt(65536) : "lsfqh019;. "
                    .charAt(random.nextInt(11))};
            case "perform": return aText(random, model);
            default: return new int[0];
        }
    }

    private static int[] aChestOnly(Random random, Model model) {
        return new int[] {near(random, 0, Math.max(0, model.made() - 1))};
    }

    // ---- texts: the arguments of perform are letters that are fed ahead of it

    private static int[] aText(Random random, Model model) {
        StringBuilder text = new StringBuilder();
        int commands = 1 + random.nextInt(4);
        for (int i = 0; i < commands; i++) {
            if (i > 0) {
                text.append(';');
            }
            text.append(aCommand(random, model));
        }
        int spoiled = random.nextInt(10);
        if (spoiled == 0) {
            text.setLength(random.nextInt(text.length() + 1));
        } else if (spoiled == 1) {
            text.setCharAt(random.nextInt(text.length()), "lsfqh019;. xtd".charAt(random.nextInt(14)));
        } else if (spoiled == 2) {
            text.insert(random.nextInt(text.length() + 1), "0; .al".charAt(random.nextInt(6)));
        } else if (spoiled == 3) {
            text.deleteCharAt(random.nextInt(text.length()));
        }
        int[] letters = new int[Math.min(60, text.length())];
        for (int i = 0; i < letters.length; i++) {
            letters[i] = text.charAt(i);
        }
        return letters;
    }

    private static String number(Random random, int most) {
        int value = random.nextInt(12) == 0 ? random.nextInt(100) : random.nextInt(most + 1);
        return value < 10 && random.nextInt(5) == 0 ? "0" + value : String.valueOf(value);
    }

    private static String aCommand(Random random, Model model) {
        String chest = number(random, Math.max(0, model.made() - 1));
        switch (random.nextInt(10)) {
            case 0: return "line " + chest;
            case 1: case 2: return "fill " + chest + " " + (random.nextInt(4) == 0 ? random.nextInt(10) : 0) + "."
                    + Model.KINDS[random.nextInt(3)] + " " + number(random, 12);
            case 3: case 4: return "screw " + chest + " " + random.nextInt(10);
            case 5: return "label " + chest;
            case 6: return "quay " + chest;
            case 7: return "load " + chest;
            case 8: return "sail";
            default: return "hours " + number(random, 9);
        }
    }

    // ---- the calls of the class

    private static String answer(TeaChests x, int which, int[] a) {
        try {
            return ask(x, CALLS_BY_NAME[which], a);
        } catch (RuntimeException e) {
            return "throws " + e.getClass().getSimpleName();
        }
    }

    private static String ask(TeaChests x, String name, int[] a) {
        switch (name) {
            case "bring": return "" + x.bring(a[0], a[1], a[2]);
            case "leaves": return "" + x.leaves(a[0], a[1]);
            case "bestGarden": return "" + x.bestGarden();
            case "buy": return "" + x.buy(a[0] == 1, a[1]);
            case "make": return "" + x.make(a[0]);
            case "line": return "" + x.line(a[0]);
            case "fill": return "" + x.fill(a[0], a[1], a[2], a[3]);
            case "empty": return "" + x.empty(a[0]);
            case "screw": return "" + x.screw(a[0], a[1]);
            case "unscrew": return "" + x.unscrew(a[0]);
            case "label": return "" + x.label(a[0]);
            case "labelled": return "" + x.labelled(a[0], a[1]);
            case "chest": return "" + x.chest(a[0], a[1]);
            case "worth": return "" + x.worth(a[0]);
            case "ranked": return "" + x.ranked(a[0]);
            case "toQuay": return "" + x.toQuay(a[0]);
            case "load": return "" + x.load(a[0]);
            case "sail": return "" + x.sail();
            case "cargo": return "" + x.cargo();
            case "height": return "" + x.height(a[0]);
            case "heightAgain": return "" + x.heightAgain(a[0]);
            case "reachedIn": return "" + x.reachedIn();
            case "setHumidity": return "" + x.setHumidity(a[0]);
            case "pass": return "" + x.pass(a[0]);
            case "isWell": return "" + x.isWell();
            case "meanDamp": return "" + x.meanDamp();
            case "sailedShare": return "" + x.sailedShare();
            case "reason": return "" + x.reason(a[0] == 1);
            case "account": return "" + x.account(a[0]);
            case "feed": return "" + x.feed((char) a[0]);
            case "undo": return "" + x.undo();
            case "save": return "" + x.save();
            case "restore": return "" + x.restore();
            default: return performFed(x, a);
        }
    }

    private static String performFed(TeaChests x, int[] letters) {
        int fed = 0;
        for (int letter : letters) {
            try {
                x.feed((char) letter);
                fed++;
            } catch (IllegalStateException e) {
                break;
            }
        }
        return fed + " fed, " + orThrown(x);
    }

    private static String orThrown(TeaChests x) {
        try {
            return "" + x.perform();
        } catch (RuntimeException e) {
            return "throws " + e.getClass().getSimpleName();
        }
    }

    private static String picture(TeaChests x) {
        StringBuilder all = new StringBuilder();
        for (int what = 0; what <= 17; what++) {
            all.append(x.account(what)).append(' ');
        }
        for (int i = 0; i < 18; i++) {
            all.append(x.leaves(i / 3, i % 3)).append(' ');
        }
        for (int chest = 0; chest < x.account(8); chest++) {
            all.append("| ");
            for (int what = 0; what <= 9; what++) {
                all.append(x.chest(chest, what)).append(' ');
            }
            for (int i = 0; i < x.chest(chest, 9); i++) {
                all.append(x.labelled(chest, i));
            }
        }
        return all.toString();
    }

    /** The second house. */
    private static final class Model {
        static final String[] KINDS = {"dust", "broken", "tips"};
        private static final int SHEETS = 18;
        private static final int SCREWS = 19;
        private static final int CLOCK = 20;
        private static final int HUMIDITY = 21;
        private static final int COINS = 22;
        private static final int SHIPS = 23;
        private static final int BROUGHT = 24;
        private static final int SAILED = 25;
        private static final int THROWN = 26;
        private static final int MADE = 27;
        private static final int FIRST_CHEST = 28;
        // Offsets of a chest's numbers; the label is 0 for none, 1 for one without and 2 for one with "damp".
        private static final int SIZE = 0;
        private static final int LEAF = 1;
        private static final int POUNDS = 2;
        private static final int LINED = 3;
        private static final int IN_CHEST = 4;
        private static final int DAMP = 5;
        private static final int WHERE = 6;
        private static final int LABEL = 7;
        private static final int WIDTH = 8;

        private static final String NUMBER = "[0-9][0-9]?";
        private static final String COMMAND = "(?:line " + NUMBER + "|fill " + NUMBER + " [0-9]\\.(?:dust|broken|tips) "
                + NUMBER + "|screw " + NUMBER + " [0-9]|label " + NUMBER + "|quay " + NUMBER + "|load " + NUMBER
                + "|sail|hours " + NUMBER + ")";
        private static final Pattern TEXT = Pattern.compile(COMMAND + "(?:;" + COMMAND + ")*", Pattern.DOTALL);

        private int[] s = new int[FIRST_CHEST + 20 * WIDTH];
        private int[] savedState = null;
        private final ArrayDeque<int[]> past = new ArrayDeque<>();
        private String buffer = "";
        private int reason = 0;
        private int detail = 0;

        private static final class Refused extends RuntimeException {
            private static final long serialVersionUID = 1L;
            final int reason;
            final int detail;

            Refused(int reason, int detail) {
                this.reason = reason;
                this.detail = detail;
            }
        }

        Model() {
            s[SHEETS] = 10;
            s[SCREWS] = 20;
            s[HUMIDITY] = 4;
        }

        int made() {
            return s[MADE];
        }

        String answer(int which, int[] a) {
            int[] before = s.clone();
            try {
                String answered = ask(CALLS_BY_NAME[which], a, before);
                return answered;
            } catch (Refused e) {
                s = before;
                reason = e.reason;
                detail = e.detail;
                return "throws UnsupportedOperationException";
            } catch (RuntimeException e) {
                s = before;
                return "throws " + e.getClass().getSimpleName();
            }
        }

        private String ask(String name, int[] a, int[] before) {
            switch (name) {
                case "leaves": leaf(a[0], a[1]); return "" + s[3 * a[0] + a[1]];
                case "bestGarden": return "" + bestGarden();
                case "labelled": return labelled(a[0], a[1]);
                case "chest": return "" + numberOf(a[0], a[1]);
                case "worth": known(a[0]); return "" + worth(a[0]);
                case "ranked": return ranked(a[0]);
                case "cargo": return "" + cargo();
                case "height": case "heightAgain": range(a[0], 0, 99); return "" + water(a[0]);
                case "reachedIn": return "" + reachedIn();
                case "isWell": return "true";
                case "meanDamp": return meanDamp();
                case "sailedShare":
                    if (s[BROUGHT] == 0) {
                        throw new ArithmeticException();
                    }
                    return "" + (float) s[SAILED] / (float) s[BROUGHT];
                case "reason":
                    if (reason == 0) {
                        throw new java.util.NoSuchElementException();
                    }
                    return "" + (a[0] == 1 ? detail : reason);
                case "account": range(a[0], 0, 17); return "" + account(a[0]);
                case "feed": feed((char) a[0]); return "" + buffer.length();
                case "perform": return performFed(a, before);
                case "undo":
                    if (past.isEmpty()) {
                        throw new IllegalStateException();
                    }
                    s = past.removeLast();
                    return "" + past.size();
                case "save": savedState = s.clone(); return "" + s[CLOCK];
                case "restore":
                    if (savedState == null) {
                        throw new IllegalStateException();
                    }
                    s = savedState.clone();
                    past.clear();
                    return "" + s[CLOCK];
                default:
                    String answered = change(name, a);
                    keep(before);
                    return answered;
            }
        }

        private void keep(int[] before) {
            past.addLast(before);
            if (past.size() > 8) {
                past.removeFirst();
            }
        }

        private String change(String name, int[] a) {
            switch (name) {
                case "bring": {
                    leaf(a[0], a[1]);
                    range(a[2], 1, 500);
                    int i = 3 * a[0] + a[1];
                    refuseIf(s[i] + a[2] > 500, 2, s[i]);
                    s[BROUGHT] += a[2];
                    return "" + (s[i] += a[2]);
                }
                case "buy": {
                    range(a[1], 1, 99);
                    int i = a[0] == 1 ? SCREWS : SHEETS;
                    return "" + (s[i] = Math.min(200, s[i] + a[1]));
                }
                case "make":
                    range(a[0], 1, 5);
                    refuseIf(s[MADE] == 20, 1, 20);
                    set(s[MADE], SIZE, a[0]);
                    return "" + s[MADE]++;
                case "setHumidity": {
                    range(a[0], 0, 9);
                    int was = s[HUMIDITY];
                    s[HUMIDITY] = a[0];
                    return "" + was;
                }
                case "pass": range(a[0], 1, 72); pass(a[0]); return "" + water(0);
                case "sail": return "" + sail();
                default: known(a[0]); return changeChest(name, a[0], a);
            }
        }

        private String changeChest(String name, int c, int[] a) {
            if (name.equals("fill")) {
                leaf(a[1], a[2]);
                range(a[3], 1, 50);
            }
            if (name.equals("screw")) {
                range(a[1], 1, 8);
            }
            refuseIf(!name.equals("load") && get(c, WHERE) != 0, 3, get(c, WHERE));
            boolean isHandled = name.equals("line") || name.equals("fill") || name.equals("empty");
            refuseIf(isHandled && get(c, IN_CHEST) > 0, 4, get(c, IN_CHEST));
            boolean needsLeaves = !name.equals("line") && !name.equals("fill") && !name.equals("unscrew") && !name.equals("load");
            refuseIf(needsLeaves && get(c, POUNDS) == 0, 10, c);
            switch (name) {
                case "line": return "" + line(c);
                case "fill": return "" + fill(c, 3 * a[1] + a[2], a[3]);
                case "empty": return "" + empty(c);
                case "screw": return "" + screw(c, a[1]);
                case "unscrew": {
                    int had = get(c, IN_CHEST);
                    s[SCREWS] = Math.min(200, s[SCREWS] + had);
                    set(c, IN_CHEST, 0);
                    return "" + had;
                }
                case "label":
                    set(c, LABEL, get(c, DAMP) > 0 ? 2 : 1);
                    return "" + label(c).length();
                case "toQuay":
                    refuseIf(!tight(c), 13, c);
                    refuseIf(get(c, LABEL) == 0, 14, c);
                    set(c, WHERE, 1);
                    return "" + at(1);
                default: return "" + load(c);
            }
        }

        private int line(int c) {
            refuseIf(get(c, LINED) == 1, 5, get(c, SIZE));
            refuseIf(s[SHEETS] < 2 * get(c, SIZE), 6, s[SHEETS]);
            set(c, LINED, 1);
            return s[SHEETS] -= 2 * get(c, SIZE);
        }

        private int fill(int c, int leaf, int pounds) {
            int other = get(c, LEAF);
            int room = 10 * get(c, SIZE) - get(c, POUNDS);
            refuseIf(get(c, POUNDS) > 0 && other != leaf, 7, 10 * (other / 3) + other % 3);
            refuseIf(room < pounds, 8, room);
            refuseIf(s[leaf] < pounds, 9, s[leaf]);
            s[leaf] -= pounds;
            set(c, LEAF, leaf);
            set(c, POUNDS, get(c, POUNDS) + pounds);
            set(c, LABEL, 0);
            return room - pounds;
        }

        private int empty(int c) {
            int pounds = get(c, POUNDS);
            int leaf = get(c, LEAF);
            s[leaf] += pounds;
            s[THROWN] += Math.max(0, s[leaf] - 500);
            s[leaf] = Math.min(500, s[leaf]);
            set(c, POUNDS, 0);
            set(c, LABEL, 0);
            set(c, DAMP, 0);
            return pounds;
        }

        private boolean screw(int c, int many) {
            refuseIf(s[SCREWS] < many, 11, s[SCREWS]);
            refuseIf(get(c, IN_CHEST) + many > 8, 12, get(c, IN_CHEST));
            s[SCREWS] -= many;
            set(c, IN_CHEST, get(c, IN_CHEST) + many);
            return tight(c);
        }

        private int load(int c) {
            refuseIf(get(c, WHERE) != 1, 15, get(c, WHERE));
            refuseIf(water(0) < 3, 16, water(0));
            refuseIf(shipRoom() < get(c, SIZE), 17, shipRoom());
            set(c, WHERE, 2);
            return shipRoom();
        }

        private int sail() {
            refuseIf(water(0) < 3, 16, water(0));
            refuseIf(at(2) == 0, 18, 0);
            int coins = cargo();
            for (int c = 0; c < s[MADE]; c++) {
                if (get(c, WHERE) == 2) {
                    set(c, WHERE, 3);
                    s[SAILED] += get(c, POUNDS);
                }
            }
            s[COINS] += coins;
            s[SHIPS]++;
            return coins;
        }

        private void pass(int hours) {
            for (int c = 0; c < s[MADE]; c++) {
                if (s[HUMIDITY] > 4 && get(c, WHERE) == 0 && get(c, POUNDS) > 0 && !tight(c)) {
                    set(c, DAMP, Math.min(20, get(c, DAMP) + hours));
                }
            }
            s[CLOCK] += hours;
        }

        private String performFed(int[] letters, int[] before) {
            int fed = 0;
            while (fed < letters.length && buffer.length() < 60) {
                feed((char) letters[fed]);
                fed++;
            }
            String text = buffer;
            buffer = "";
            return fed + " fed, " + perform(text, before);
        }

        private String perform(String text, int[] before) {
            if (!TEXT.matcher(text).matches()) {
                int position = 0;
                while (position < text.length() && canGoOn(text.substring(0, position + 1))) {
                    position++;
                }
                return "" + (-100 - position);
            }
            String[] commands = text.split(";");
            for (int i = 0; i < commands.length; i++) {
                try {
                    carryOut(commands[i].split("[ .]"));
                } catch (RuntimeException e) {
                    s = before;
                    reason = 19;
                    detail = i;
                    return "throws UnsupportedOperationException";
                }
            }
            keep(before);
            return "" + commands.length;
        }

        private static boolean canGoOn(String text) {
            Matcher matcher = TEXT.matcher(text);
            return matcher.matches() || matcher.hitEnd();
        }

        private void carryOut(String[] words) {
            int first = words.length > 1 ? Integer.parseInt(words[1]) : 0;
            switch (words[0]) {
                case "fill":
                    int kind = Arrays.asList(KINDS).indexOf(words[3]);
                    change("fill", new int[] {first, Integer.parseInt(words[2]), kind, Integer.parseInt(words[4])});
                    break;
                case "screw": change("screw", new int[] {first, Integer.parseInt(words[2])}); break;
                case "quay": change("toQuay", new int[] {first}); break;
                case "hours": change("pass", new int[] {first}); break;
                default: change(words[0], new int[] {first});
            }
        }

        private void feed(char letter) {
            if (buffer.length() == 60) {
                throw new IllegalStateException();
            }
            buffer += letter;
        }

        private static void refuseIf(boolean isRefused, int reason, int detail) {
            if (isRefused) {
                throw new Refused(reason, detail);
            }
        }

        private static void range(int value, int least, int most) {
            if (value < least || value > most) {
                throw new IllegalArgumentException();
            }
        }

        private static void leaf(int garden, int kind) {
            if (garden < 0 || garden > 5 || kind < 0 || kind > 2) {
                throw new IndexOutOfBoundsException();
            }
        }

        private void known(int c) {
            if (c < 0 || c >= s[MADE]) {
                throw new IndexOutOfBoundsException();
            }
        }

        private int get(int c, int what) {
            return s[FIRST_CHEST + WIDTH * c + what];
        }

        private void set(int c, int what, int value) {
            s[FIRST_CHEST + WIDTH * c + what] = value;
        }

        private boolean tight(int c) {
            return get(c, LINED) == 1 && get(c, IN_CHEST) - get(c, SIZE) >= 2;
        }

        private int worth(int c) {
            int pounds = get(c, POUNDS);
            return pounds == 0 ? 0 : pounds * (get(c, LEAF) % 3 + 1) - pounds * get(c, DAMP) / 20;
        }

        private int at(int where) {
            int many = 0;
            for (int c = 0; c < s[MADE]; c++) {
                many += get(c, WHERE) == where ? 1 : 0;
            }
            return many;
        }

        private int cargo() {
            int coins = 0;
            for (int c = 0; c < s[MADE]; c++) {
                coins += get(c, WHERE) == 2 ? worth(c) : 0;
            }
            return coins;
        }

        private int shipRoom() {
            int room = 12;
            for (int c = 0; c < s[MADE]; c++) {
                room -= get(c, WHERE) == 2 ? get(c, SIZE) : 0;
            }
            return room;
        }

        private int water(int hours) {
            return new int[] {6, 5, 4, 3, 2, 1, 0, 1, 2, 3, 4, 5}[(s[CLOCK] + hours) % 12];
        }

        private int reachedIn() {
            return new int[] {0, 0, 0, 0, 5, 4, 3, 2, 1, 0, 0, 0}[s[CLOCK] % 12];
        }

        private int bestGarden() {
            int best = 0;
            int most = -1;
            for (int g = 0; g < 6; g++) {
                int rank = 1000 * (s[3 * g] + s[3 * g + 1] + s[3 * g + 2]) + s[3 * g + 2];
                if (rank > most) {
                    best = g;
                    most = rank;
                }
            }
            return best;
        }

        private String label(int c) {
            if (get(c, LABEL) == 0) {
                return "";
            }
            int leaf = get(c, LEAF);
            return leaf / 3 + "." + KINDS[leaf % 3] + " " + get(c, POUNDS) + (get(c, LABEL) == 2 ? " damp" : "");
        }

        private String labelled(int c, int index) {
            known(c);
            if (index < 0 || index >= label(c).length()) {
                throw new java.util.NoSuchElementException();
            }
            return label(c).substring(index, index + 1);
        }

        private int numberOf(int c, int what) {
            known(c);
            range(what, 0, 9);
            boolean isEmpty = get(c, POUNDS) == 0;
            int leaf = get(c, LEAF);
            return new int[] {get(c, SIZE), isEmpty ? -1 : leaf / 3, isEmpty ? -1 : leaf % 3, get(c, POUNDS),
                get(c, LINED), get(c, IN_CHEST), get(c, DAMP), tight(c) ? 1 : 0, get(c, WHERE),
                label(c).length()}[what];
        }

        private String ranked(int place) {
            java.util.List<Integer> order = new java.util.ArrayList<>();
            for (int c = 0; c < s[MADE]; c++) {
                if (get(c, WHERE) != 3) {
                    order.add(c);
                }
            }
            // The sort is stable, so of equals the lowest number comes first.
            order.sort((one, two) -> worth(one) != worth(two) ? worth(two) - worth(one) : get(one, DAMP) - get(two, DAMP));
            if (place < 0 || place >= order.size()) {
                throw new java.util.NoSuchElementException();
            }
            return "" + order.get(place);
        }

        private String meanDamp() {
            int sum = 0;
            int many = 0;
            for (int c = 0; c < s[MADE]; c++) {
                if (get(c, WHERE) != 3 && get(c, POUNDS) > 0) {
                    sum += get(c, DAMP);
                    many++;
                }
            }
            if (many == 0) {
                throw new ArithmeticException();
            }
            return "" + (double) sum / (double) many;
        }

        private int account(int what) {
            int inChests = 0;
            for (int c = 0; c < s[MADE]; c++) {
                inChests += get(c, WHERE) == 3 ? 0 : get(c, POUNDS);
            }
            int stored = 0;
            for (int i = 0; i < 18; i++) {
                stored += s[i];
            }
            return new int[] {s[CLOCK], stored, inChests, s[SAILED], s[THROWN], s[BROUGHT], s[SHEETS], s[SCREWS],
                s[MADE], at(0), at(1), at(2), shipRoom(), s[SHIPS], s[COINS], s[HUMIDITY], buffer.length(),
                past.size()}[what];
        }

        String picture() {
            StringBuilder all = new StringBuilder();
            for (int what = 0; what <= 17; what++) {
                all.append(account(what)).append(' ');
            }
            for (int i = 0; i < 18; i++) {
                all.append(s[i]).append(' ');
            }
            for (int c = 0; c < s[MADE]; c++) {
                all.append("| ");
                for (int what = 0; what <= 9; what++) {
                    all.append(numberOf(c, what)).append(' ');
                }
                all.append(label(c));
            }
            return all.toString();
        }
    }
}
