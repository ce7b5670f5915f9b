/** What the term "Vans" says of exceptions: which one is thrown, and that a call that throws one changes nothing. */
public final class RefusedTest {
    private static final int RUNS = 40;
    private static final int CALLS = 200;
    private static final int[] WRONG = {Integer.MIN_VALUE, Integer.MAX_VALUE, -31, 1 << 16};

    private long number;

    private RefusedTest(int run) {
        number = run * 104729L + 1;
    }

    /** A call with five arguments, of which a kind of call takes the first ones. */
    private interface Five {
        Object answer(int[] arguments);
    }

    /**
     * Calls with each choice of wrong arguments. The first ones of them bring an IndexOutOfBoundsException, the others
     * an IllegalArgumentException, and if none is wrong, an IllegalStateException is due, where the state brings one.
     */
    private static void choices(String told, TiltRoute x, boolean state, int indices, int[] right, Five call) {
        for (int choice = 0; choice < 1 << right.length; choice++) {
            for (int wrong : WRONG) {
                int[] arguments = right.clone();
                for (int i = 0; i < right.length; i++) {
                    arguments[i] = (choice >> i & 1) == 1 ? wrong : right[i];
                }
                boolean index = (choice & (1 << indices) - 1) != 0;
                Class<? extends RuntimeException> due = index ? Check.INDEX
                        : choice != 0 ? Check.ARGUMENT : Check.STATE;
                if (choice != 0 || state) {
                    Check.raises(told + ", choice " + choice + " of " + wrong, due, x, () -> call.answer(arguments));
                }
            }
        }
    }

    /** The calls on the table 0, which is in a game, with 8 bumpers, or in none, and without coins. */
    private static void choicesAtATable(TiltRoute x) {
        boolean game = x.gameAt(0) != TiltRoute.NONE;
        choices("addBumper", x, game, 1, new int[] {0, 0, 0, 101, 0}, a -> x.addBumper(a[0], a[1], a[2], a[3], a[4]));
        choices("setPoints", x, game, 2, new int[] {0, 0, 5}, a -> x.setPoints(a[0], a[1], a[2]));
        choices("setMode", x, game, 2, new int[] {0, 3, 102, 5}, a -> x.setMode(a[0], a[1], 0, a[2], a[3]));
        choices("setMode to NONE", x, game, 2, new int[] {0, 3, 102, 5}, a -> x.setMode(a[0], a[1], -1, a[2], a[3]));
        for (int switches : new int[] {8, 80, 88, 100}) {
            Check.raises("switches " + switches, Check.INDEX, x, () -> x.setMode(0, 3, switches, 102, 5));
            for (int wrong : WRONG) {
                Check.raises("no switch and limit " + wrong, Check.INDEX, x, () -> x.setMode(0, 3, switches, wrong, 5));
                Check.raises("no switch, bonus " + wrong, Check.INDEX, x, () -> x.setMode(0, 3, switches, 102, wrong));
            }
        }
        for (int switches : new int[] {-2, Integer.MIN_VALUE}) {
            Check.raises("switches " + switches, Check.ARGUMENT, x, () -> x.setMode(0, 0, switches, 102, 0));
            choices("setMode below -1", x, false, 2, new int[] {0, 3, 102, 5},
                    a -> x.setMode(a[0], a[1], switches, a[2], a[3]));
        }
        choices("stick", x, true, 2, new int[] {0, 0}, a -> x.stick(a[0], a[1]));
        choices("sticks", x, false, 2, new int[] {0, 0}, a -> x.sticks(a[0], a[1]));
        choices("wear", x, false, 2, new int[] {0, 0}, a -> x.wear(a[0], a[1]));
        choices("coin", x, game, 1, new int[] {0}, a -> x.coin(a[0]));
        choices("shoot", x, !game, 1, new int[] {0, 0, 0, 0}, a -> x.shoot(a[0], a[1], a[2], a[3]));
        choices("gameAt", x, false, 1, new int[] {0}, a -> x.gameAt(a[0]));
        choices("rob", x, true, 1, new int[] {0, 100}, a -> x.rob(a[0], a[1]));
        choices("box", x, false, 1, new int[] {0}, a -> x.box(a[0]));
        choices("missing", x, false, 1, new int[] {0}, a -> x.missing(a[0]));
        for (int place : new int[] {-1, -2, Integer.MIN_VALUE}) {
            Check.raises("high", Check.ARGUMENT, x, () -> x.high(0, place));
            Check.raises("high of no table", Check.INDEX, x, () -> x.high(6, place));
        }
    }

    private static void choicesOfGamesAndVans(TiltRoute x) {
        choices("ballsLeft", x, false, 1, new int[] {0}, a -> x.ballsLeft(a[0]));
        choices("stack", x, false, 1, new int[] {0}, a -> x.stack(a[0]));
        choices("score", x, false, 1, new int[] {0}, a -> x.score(a[0]));
        choices("scoreByLog", x, false, 1, new int[] {0}, a -> x.scoreByLog(a[0]));
        choices("valid", x, false, 1, new int[] {0}, a -> x.valid(a[0]));
        choices("logged", x, false, 1, new int[] {0}, a -> x.logged(a[0]));
        choices("entryAt", x, false, 2, new int[] {0, 0}, a -> x.entryAt(a[0], a[1]));
        choices("twin", x, false, 1, new int[] {0}, a -> x.twin(a[0]));
        choices("load", x, true, 1, new int[] {1, 1, 20}, a -> x.load(a[0], a[1], a[2]));
        choices("parts", x, false, 1, new int[] {1, 1}, a -> x.parts(a[0], a[1]));
        choices("wanted", x, false, 0, new int[] {1}, a -> x.wanted(a[0]));
        choices("way", x, false, 1, new int[] {0}, a -> x.way(a[0]));
        choices("planned", x, false, 2, new int[] {0, 0}, a -> x.planned(a[0], a[1]));
        choices("vanAt", x, false, 1, new int[] {0}, a -> x.vanAt(a[0]));
    }

    /** Six tables, of which the table 0 has 8 bumpers and has been played at once; the switch 0 sticks. */
    private static TiltRoute full() {
        TiltRoute x = Routes.withButtons(8);
        for (int i = 1; i < 6; i++) {
            Routes.addButtons(x, 10 * i, 1, 1);
        }
        x.setMode(0, 0, 11, 102, 5);
        x.stick(0, 0);
        x.load(1, TiltRoute.COILS, 1);
        Routes.playPresses(x, 0, 1, 1, 2);
        return x;
    }

    private static void whichException() {
        Document.saysOfAll("An IndexOutOfBoundsException is thrown if there is no such table, switch, mode, game, "
                + "entry, van or place, an IllegalArgumentException if another argument is out of its range, an "
                + "IllegalStateException as told.");
        TiltRoute x = full();
        Check.raises("no such table", Check.INDEX, x, () -> x.box(6));
        Check.raises("no such switch", Check.INDEX, x, () -> x.sticks(0, 8));
        Check.raises("no such mode", Check.INDEX, x, () -> x.setMode(0, 4, -1, 102, 0));
        Check.raises("no such game", Check.INDEX, x, () -> x.score(1));
        Check.raises("no such entry", Check.INDEX, x, () -> x.entryAt(0, 3));
        Check.raises("no such van", Check.INDEX, x, () -> x.vanAt(2));
        Check.raises("no such place", Check.INDEX, x, () -> x.planned(0, 1));
        Check.raises("another argument", Check.ARGUMENT, x, () -> x.wanted(2));
        Check.raises("a state", Check.STATE, x, () -> x.addTable(0, 1));

        Document.saysOfAll("If several exceptions of a throws clause apply, the one that is listed first is thrown.");
        choices("addTable", x, true, 0, new int[] {0, 1}, a -> x.addTable(a[0], a[1]));
        choicesAtATable(x);
        choicesOfGamesAndVans(x);
        x.coin(0);
        choicesAtATable(x);
        TiltRoute empty = Routes.withButtons(1);
        choices("go", empty, true, 1, new int[] {1}, a -> empty.go(a[0]));
    }

    private int any(int least, int most) {
        number = number * 6364136223846793005L + 1442695040888963407L;
        return least + (int) (number >>> 33) % (most - least + 1);
    }

    private static void refused(String told, Check.Call call) {
        String got;
        try {
            got = String.valueOf(call.answer());
        } catch (IllegalArgumentException | IllegalStateException | IndexOutOfBoundsException e) {
            got = "an exception";
        }
        Check.due(told + " is refused", got, "an exception");
    }

    /** Calls that are refused in each state. */
    private static void refuseAlways(TiltRoute x) {
        int[] tables = {-1, x.tables(), Integer.MIN_VALUE, Integer.MAX_VALUE};
        for (int t : tables) {
            refused("addBumper", () -> x.addBumper(t, 1, 1, 5050, 20));
            refused("setPoints", () -> x.setPoints(t, 0, 999));
            refused("setMode", () -> x.setMode(t, 0, 0, 109, 4000));
            refused("stick", () -> x.stick(t, 0));
            refused("coin", () -> x.coin(t));
            refused("shoot", () -> x.shoot(t, 5, 5, 5));
            refused("rob", () -> x.rob(t, 1));
        }
        refused("addTable", () -> x.addTable(101, 1));
        refused("addTable", () -> x.addTable(100, 10));
        refused("load", () -> x.load(2, 0, 1));
        refused("load", () -> x.load(0, 2, 1));
        refused("load", () -> x.load(1, 1, 21));
        refused("load", () -> x.load(1, 0, -1));
        refused("go", () -> x.go(2));
        refused("go", () -> x.go(-1));
        refused("planned", () -> x.planned(0, 6));
        refused("entryAt", () -> x.entryAt(x.games(), 0));
    }

    /** Calls on a table that are refused by their arguments, or as a game is on at it, or as none is. */
    private static void refuseAtATable(TiltRoute x, int t) {
        refused("addBumper", () -> x.addBumper(t, 160, 1, 5050, 20));
        refused("addBumper", () -> x.addBumper(t, 1, 1, 6100, 20));
        refused("addBumper", () -> x.addBumper(t, 1, 1, 5050, 21));
        refused("setPoints", () -> x.setPoints(t, 8, 999));
        refused("setPoints", () -> x.setPoints(t, 0, 1001));
        refused("setMode", () -> x.setMode(t, 0, 8, 109, 4000));
        refused("setMode", () -> x.setMode(t, 0, -1, 100, 4000));
        refused("setMode", () -> x.setMode(t, 1, -1, 109, 5001));
        refused("setMode", () -> x.setMode(t, 2, -2, 109, 5000));
        refused("stick", () -> x.stick(t, 8));
        refused("shoot", () -> x.shoot(t, 160, 0, 0));
        refused("shoot", () -> x.shoot(t, 0, 31, 0));
        refused("shoot", () -> x.shoot(t, 0, 0, -31));
        refused("rob", () -> x.rob(t, 0));
        if (x.box(t) < 100) {
            refused("rob", () -> x.rob(t, x.box(t) + 1));
        }
        if (x.gameAt(t) == TiltRoute.NONE) {
            refused("shoot", () -> x.shoot(t, 0, 0, 0));
        } else {
            refused("addBumper", () -> x.addBumper(t, 1, 1, 5050, 20));
            refused("setPoints", () -> x.setPoints(t, 0, 999));
            refused("setMode", () -> x.setMode(t, 0, -1, 109, 4000));
            refused("coin", () -> x.coin(t));
        }
        for (int i = 0; i < 8 && Check.hasSwitch(x, t, i); i++) {
            int s = i;
            if (x.sticks(t, s)) {
                refused("stick", () -> x.stick(t, s));
            }
        }
    }

    private static void refuseByTheState(TiltRoute x) {
        for (int t = 0; t < x.tables(); t++) {
            refuseAtATable(x, t);
        }
        if (x.tables() == 6) {
            refused("addTable", () -> x.addTable(0, 1));
        }
        for (int v = 0; v < 2; v++) {
            int van = v;
            for (int k = 0; k < 2; k++) {
                int kind = k;
                if (x.parts(van, kind) > 0) {
                    refused("load", () -> x.load(van, kind, 21 - x.parts(van, kind)));
                }
            }
            if (Check.planOf(x, van).isEmpty()) {
                refused("go", () -> x.go(van));
            }
        }
    }

    /** A call by numbers of a fixed row, as it is made on a route. */
    private static String answer(TiltRoute x, int kind, int[] n) {
        int t = n[0] % Math.max(1, x.tables());
        try {
            switch (kind) {
                case 0: return "addTable " + x.addTable(n[1] % 101, 1 + n[2] % 9);
                case 1: return "addBumper " + x.addBumper(t, n[1] % 160, n[2] % 240, 2020 + n[3] % 10, n[1] % 21);
                case 2: return "setPoints " + x.setPoints(t, n[1] % 8, n[2] % 1001);
                case 3: return "setMode " + x.setMode(t, n[1] % 4, n[2] % 4 * 10 + n[3] % 4, 302 + n[2] % 8, n[3]);
                case 4: return "stick " + x.stick(t, n[1] % 8);
                case 5: return "coin " + x.coin(t);
                case 6: return "rob " + x.rob(t, 1 + n[1] % 5);
                case 7: return "load " + x.load(n[0] % 2, n[1] % 2, 1 + n[2] % 5);
                case 8: return "go " + x.go(n[0] % 2);
                default: return "shoot " + x.shoot(t, n[1] % 160, n[2] % 61 - 30, n[3] % 61 - 30);
            }
        } catch (RuntimeException e) {
            return Check.nameOf(e);
        }
    }

    /** Makes the same calls on two routes, with calls that are refused between those on the first one. */
    private void play() {
        TiltRoute stormy = new TiltRoute();
        TiltRoute calm = new TiltRoute();
        for (int i = 0; i < CALLS; i++) {
            int kind = i < 3 ? 0 : i < 20 ? 1 : i < 30 ? 2 : any(0, 16);
            int[] numbers = {any(0, 999), any(0, 999), any(0, 999), any(0, 999)};
            refuseAlways(stormy);
            refuseByTheState(stormy);
            Check.due("the call " + i, answer(stormy, kind, numbers), answer(calm, kind, numbers));
            if (i % 20 == 19) {
                Check.due("the state behind the call " + i, Check.stateOf(stormy), Check.stateOf(calm));
            }
        }
    }

    private static void changesNothing() {
        Document.saysOfAll("A call that throws an exception changes nothing.");
        for (int run = 0; run < RUNS; run++) {
            new RefusedTest(run).play();
        }
        atTheMost();
    }

    /** The same, where there are as many stickings and games as there can be. */
    private static void atTheMost() {
        TiltRoute x = Routes.withButtons(8);
        Routes.addButtons(x, 0, 1, 1);
        x.load(0, TiltRoute.SWITCHES, 20);
        for (int i = 0; i < 60; i++) {
            Check.due("a sticking", x.stick(0, 0), i);
            if (i < 59) {
                x.go(0);
                x.load(0, TiltRoute.SWITCHES, 1);
            }
        }
        for (int i = 0; i < 40; i++) {
            Routes.playEmpty(x, i % 2);
        }
        for (int i = 1; i < 8; i++) {
            int s = i;
            Check.raises("a sticking 60", Check.STATE, x, () -> x.stick(0, s));
        }
        Check.raises("a game 40", Check.STATE, x, () -> x.coin(0));
        Check.raises("a game 40 at another table", Check.STATE, x, () -> x.coin(1));
        Check.due("the box", x.box(0), 20);
        Check.due("the box of the other table", x.box(1), 20);
        x.go(0);
        Check.due("nothing is missing", x.missing(0) + x.missing(1), 0);
        Check.due("no switch sticks", x.wanted(TiltRoute.SWITCHES), 0);
    }

    public static void main(String[] args) {
        whichException();
        changesNothing();
        Document.demandTerm("Vans", 3, 3);
        Check.end();
    }
}
