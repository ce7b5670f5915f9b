/** Promises 1 to 9: a new object, and the tables. */
public final class TablesTest {
    private static final int LOW = Integer.MIN_VALUE;
    private static final int HIGH = Integer.MAX_VALUE;

    private TablesTest() {
    }

    private static void promise1NewObject() {
        TiltRoute x = new TiltRoute();
        Check.due("tables of a new object", x.tables(), 0);
        Check.due("games of a new object", x.games(), 0);
        for (int van = 0; van < 2; van++) {
            Check.due("vanAt of a new object", x.vanAt(van), 0);
            Check.due("way of a new object", x.way(van), 0);
            Check.due("switches of a new object", x.parts(van, TiltRoute.SWITCHES), 0);
            Check.due("coils of a new object", x.parts(van, TiltRoute.COILS), 0);
        }
        new TiltRoute().addTable(1, 1);
        Check.due("tables, as another object has one", x.tables(), 0);
        Check.raises("gameAt(0) of a new object", Check.INDEX, x, () -> x.gameAt(0));
    }

    private static void promise2AddTable() {
        TiltRoute x = new TiltRoute();
        for (int site : new int[] {-1, 101, LOW, HIGH}) {
            Check.raises("addTable(" + site + ", 1)", Check.ARGUMENT, x, () -> x.addTable(site, 1));
        }
        for (int price : new int[] {0, 10, -1, LOW, HIGH}) {
            Check.raises("addTable(0, " + price + ")", Check.ARGUMENT, x, () -> x.addTable(0, price));
        }
        int[] sites = {0, 100, 50, 50, 1, 99};
        for (int i = 0; i < 6; i++) {
            Check.due("addTable " + i, x.addTable(sites[i], i % 2 == 0 ? 1 : 9), i);
            Check.due("the box of a new table", x.box(i), 0);
            Check.due("missing of a new table", x.missing(i), 0);
            Check.due("gameAt of a new table", x.gameAt(i), TiltRoute.NONE);
        }
        Check.raises("a seventh table", Check.STATE, x, () -> x.addTable(0, 1));
        Check.raises("a seventh table at 101", Check.ARGUMENT, x, () -> x.addTable(101, 1));
        Check.raises("a seventh table for 10", Check.ARGUMENT, x, () -> x.addTable(0, 10));
        x.coin(0);
        x.coin(1);
        Check.due("the box for 1", x.box(0), 1);
        Check.due("the box for 9", x.box(1), 9);
    }

    private static void promise3AddBumper() {
        TiltRoute x = new TiltRoute();
        x.addTable(0, 1);
        for (int table : new int[] {-1, 1, LOW, HIGH}) {
            Check.raises("addBumper at " + table, Check.INDEX, x, () -> x.addBumper(table, -1, 0, 101, 0));
        }
        for (int left : new int[] {-1, 160, LOW, HIGH}) {
            Check.raises("left " + left, Check.ARGUMENT, x, () -> x.addBumper(0, left, 0, 101, 0));
        }
        for (int top : new int[] {-1, 240, LOW, HIGH}) {
            Check.raises("top " + top, Check.ARGUMENT, x, () -> x.addBumper(0, 0, top, 101, 0));
        }
        for (int size : new int[] {0, 1, 60, 100, 161, 199, 6000, 6061, 6101, 6100, -101, -1, LOW, HIGH}) {
            Check.raises("size " + size, Check.ARGUMENT, x, () -> x.addBumper(0, 0, 0, size, 0));
        }
        for (int kick : new int[] {-1, 21, LOW, HIGH}) {
            Check.raises("kick " + kick, Check.ARGUMENT, x, () -> x.addBumper(0, 0, 0, 101, kick));
        }
        int[][] bumpers = {{0, 0, 101, 0}, {159, 239, 6060, 20}, {0, 239, 160, 20}, {159, 0, 6001, 0},
            {80, 100, 3030, 10}, {80, 100, 3030, 10}, {1, 1, 201, 1}};
        for (int i = 0; i < 7; i++) {
            int[] b = bumpers[i];
            Check.due("addBumper " + i, x.addBumper(0, b[0], b[1], b[2], b[3]), i);
            Check.due("wear of a new bumper", x.wear(0, i), 0);
            Check.due("sticks of a new switch", x.sticks(0, i), false);
            Check.due("points of a new switch", x.setPoints(0, i, 0), 0);
        }
        x.coin(0);
        Check.raises("addBumper in a game", Check.STATE, x, () -> x.addBumper(0, 0, 0, 101, 0));
        Check.raises("kick 21 in a game", Check.ARGUMENT, x, () -> x.addBumper(0, 0, 0, 101, 21));
        x.addTable(0, 1);
        Check.due("addBumper at another table than the game's", x.addBumper(1, 0, 0, 101, 0), 0);
        for (int ball = 0; ball < 3; ball++) {
            x.shoot(0, 40, 0, 30);
        }
        Check.due("an eighth bumper behind the game", x.addBumper(0, 0, 0, 101, 0), 7);
        Check.raises("a ninth bumper", Check.STATE, x, () -> x.addBumper(0, 0, 0, 101, 0));
        Check.raises("a ninth bumper at left 160", Check.ARGUMENT, x, () -> x.addBumper(0, 160, 0, 101, 0));
    }

    private static void promise4SetPoints() {
        TiltRoute x = new TiltRoute();
        Routes.addButtons(x, 0, 1, 2);
        Check.due("the points at first", x.setPoints(0, 0, 1000), 0);
        Check.due("the points of another switch", x.setPoints(0, 1, 7), 0);
        for (int table : new int[] {-1, 1, LOW, HIGH}) {
            Check.raises("setPoints at " + table, Check.INDEX, x, () -> x.setPoints(table, 0, -1));
        }
        for (int number : new int[] {-1, 2, LOW, HIGH}) {
            Check.raises("setPoints of " + number, Check.INDEX, x, () -> x.setPoints(0, number, 1001));
        }
        for (int points : new int[] {-1, 1001, LOW, HIGH}) {
            Check.raises("points " + points, Check.ARGUMENT, x, () -> x.setPoints(0, 0, points));
        }
        x.coin(0);
        Check.raises("setPoints in a game", Check.STATE, x, () -> x.setPoints(0, 0, 1));
        Check.raises("points 1001 in a game", Check.ARGUMENT, x, () -> x.setPoints(0, 0, 1001));
        Check.raises("setPoints of 2 in a game", Check.INDEX, x, () -> x.setPoints(0, 2, 1));
        Check.due("a press for 1000", Routes.press(x, 0, 0), 1000);
        Check.due("a press for 7", Routes.press(x, 0, 1), 7);
        Routes.miss(x, 0);
        Check.due("the points before, behind all these", x.setPoints(0, 0, 0), 1000);
        Check.due("the points before of the other", x.setPoints(0, 1, 8), 7);
        x.coin(0);
        Check.due("a press for 0", Routes.press(x, 0, 0), 0);
        Check.due("a press for 8", Routes.press(x, 0, 1), 8);
    }

    private static void promise5SetModeArguments() {
        TiltRoute x = new TiltRoute();
        Routes.addButtons(x, 0, 1, 3);
        for (int table : new int[] {-1, 1, LOW, HIGH}) {
            Check.raises("setMode at " + table, Check.INDEX, x, () -> x.setMode(table, 0, -2, 102, 0));
        }
        for (int mode : new int[] {-1, 4, LOW, HIGH}) {
            Check.raises("setMode of " + mode, Check.INDEX, x, () -> x.setMode(0, mode, -1, 0, 0));
        }
        for (int switches : new int[] {3, 9, 30, 13, 22 + 10, 23, 33, 80, 100, HIGH}) {
            Check.raises("switches " + switches, Check.INDEX, x, () -> x.setMode(0, 0, switches, 0, -1));
        }
        for (int switches : new int[] {-2, -11, LOW}) {
            Check.raises("switches " + switches, Check.ARGUMENT, x, () -> x.setMode(0, 0, switches, 102, 0));
        }
        for (int limit : new int[] {0, 2, 99, 100, 101, 110, 2001, 2010, 2102, 199, -102, LOW, HIGH}) {
            Check.raises("limit " + limit, Check.ARGUMENT, x, () -> x.setMode(0, 0, 0, limit, 0));
            Check.raises("NONE and limit " + limit, Check.ARGUMENT, x, () -> x.setMode(0, 0, -1, limit, 0));
        }
        for (int bonus : new int[] {-1, 5001, LOW, HIGH}) {
            Check.raises("bonus " + bonus, Check.ARGUMENT, x, () -> x.setMode(0, 0, 0, 102, bonus));
            Check.raises("NONE and bonus " + bonus, Check.ARGUMENT, x, () -> x.setMode(0, 0, -1, 102, bonus));
        }
        Check.due("a mode at first", x.setMode(0, 0, -1, 102, 0), false);
        Check.due("a mode that was set to NONE", x.setMode(0, 0, 22, 2009, 5000), false);
        Check.due("a mode that is defined", x.setMode(0, 0, 0, 102, 0), true);
        Check.due("a mode that goes", x.setMode(0, 0, -1, 2009, 5000), true);
        Check.due("a mode that is gone", x.setMode(0, 0, -1, 102, 0), false);
        Check.due("the mode 3", x.setMode(0, 3, 12, 102, 0), false);
        Check.due("the mode 2, as 3 is defined", x.setMode(0, 2, 12, 102, 0), false);
        x.coin(0);
        Check.raises("setMode in a game", Check.STATE, x, () -> x.setMode(0, 3, -1, 102, 0));
        Check.raises("bonus 5001 in a game", Check.ARGUMENT, x, () -> x.setMode(0, 3, -1, 102, 5001));
        Check.raises("mode 4 in a game", Check.INDEX, x, () -> x.setMode(0, 4, -1, 102, 0));
        for (int ball = 0; ball < 3; ball++) {
            Routes.miss(x, 0);
        }
        Check.due("the mode 3 behind all these", x.setMode(0, 3, -1, 102, 0), true);
        Check.due("the mode 0 behind all these", x.setMode(0, 0, -1, 102, 0), false);
    }

    private static void promise5SetModeSwitches() {
        TiltRoute empty = new TiltRoute();
        empty.addTable(0, 1);
        Check.raises("switches 0 without bumpers", Check.INDEX, empty, () -> empty.setMode(0, 0, 0, 102, 0));
        Check.due("NONE without bumpers", empty.setMode(0, 0, -1, 102, 0), false);
        for (int begins = 0; begins < 8; begins++) {
            TiltRoute x = new TiltRoute();
            Routes.addButtons(x, 0, 1, 8);
            for (int ends = 0; ends < 8; ends++) {
                Check.due("it was defined", x.setMode(0, 0, 10 * begins + ends, 2002, 0), ends > 0);
                int game = x.coin(0);
                Routes.press(x, 0, begins);
                Check.due("the stack behind the beginning by " + begins, x.stack(game), 1);
                Routes.press(x, 0, ends);
                Check.due("the stack behind the end by " + ends, x.stack(game), 0);
                Routes.press(x, 0, (begins + 1) % 8);
                Check.due("the stack behind another switch", x.stack(game), 0);
            }
        }
    }

    private static void promise5SetModeThatThrowsKeepsTheMode() {
        TiltRoute x = new TiltRoute();
        Routes.addButtons(x, 0, 1, 2);
        x.setPoints(0, 1, 1);
        x.setMode(0, 0, 0, 205, 30);
        Check.raises("setMode with bonus 5001", Check.ARGUMENT, x, () -> x.setMode(0, 0, 11, 102, 5001));
        Check.raises("setMode with limit 101", Check.ARGUMENT, x, () -> x.setMode(0, 0, -1, 101, 0));
        x.coin(0);
        Check.raises("setMode in a game", Check.STATE, x, () -> x.setMode(0, 0, 11, 109, 7));
        Routes.press(x, 0, 0);
        Check.due("the first hit, 5 times", Routes.press(x, 0, 1), 5);
        Check.due("the second hit, 5 times, with the bonus", Routes.press(x, 0, 1), 35);
    }

    private static void promise6Tables() {
        TiltRoute x = new TiltRoute();
        for (int i = 0; i < 6; i++) {
            Check.due("tables", x.tables(), i);
            x.addTable(i, 1);
        }
        Check.due("tables", x.tables(), 6);
    }

    private static void promise7And8Stick() {
        TiltRoute x = new TiltRoute();
        Routes.addButtons(x, 10, 1, 2);
        Routes.addButtons(x, 20, 1, 1);
        for (int table : new int[] {-1, 2, LOW, HIGH}) {
            Check.raises("stick at " + table, Check.INDEX, x, () -> x.stick(table, 0));
            Check.raises("sticks at " + table, Check.INDEX, x, () -> x.sticks(table, 0));
        }
        for (int number : new int[] {-1, 2, LOW, HIGH}) {
            Check.raises("stick of " + number, Check.INDEX, x, () -> x.stick(0, number));
            Check.raises("sticks of " + number, Check.INDEX, x, () -> x.sticks(0, number));
        }
        Check.raises("stick of a switch of another table", Check.INDEX, x, () -> x.stick(1, 1));
        Check.due("the first sticking", x.stick(0, 1), 0);
        Check.due("the second sticking", x.stick(1, 0), 1);
        Check.due("a switch that does not stick", x.sticks(0, 0), false);
        Check.due("a switch that sticks", x.sticks(0, 1), true);
        Check.due("a switch of the other table", x.sticks(1, 0), true);
        Check.raises("stick of a switch that sticks", Check.STATE, x, () -> x.stick(0, 1));
        x.coin(0);
        Check.due("stick in a game", x.stick(0, 0), 2);
        x.load(0, TiltRoute.SWITCHES, 1);
        x.go(0);
        Check.due("a switch that was mended", x.sticks(1, 0), false);
        Check.due("a new sticking of it", x.stick(1, 0), 3);
    }

    private static void promise7SixtyStickings() {
        TiltRoute x = new TiltRoute();
        Routes.addButtons(x, 0, 1, 8);
        int sticking = 0;
        while (sticking < 60) {
            for (int i = 0; i < 8 && sticking < 60; i++) {
                Check.due("a sticking", x.stick(0, i), sticking);
                sticking++;
            }
            if (sticking < 60) {
                x.load(0, TiltRoute.SWITCHES, 8);
                x.go(0);
            }
        }
        Check.due("the switch of sticking 59", x.sticks(0, 3), true);
        Check.raises("a sticking 60", Check.STATE, x, () -> x.stick(0, 4));
        Check.raises("a sticking 60 of no switch", Check.INDEX, x, () -> x.stick(0, 8));
        Check.due("the switch without sticking 60", x.sticks(0, 4), false);
        x.load(0, TiltRoute.SWITCHES, 8);
        x.go(0);
        Check.raises("a sticking 60 behind the mending", Check.STATE, x, () -> x.stick(0, 0));
        x.coin(0);
        Routes.wait(x, 0);
        Check.due("closings without sticking 60", x.logged(0), 0);
    }

    private static void promise9Wear() {
        TiltRoute x = new TiltRoute();
        Routes.addButtons(x, 0, 1, 2);
        for (int table : new int[] {-1, 1, LOW, HIGH}) {
            Check.raises("wear at " + table, Check.INDEX, x, () -> x.wear(table, 0));
        }
        for (int number : new int[] {-1, 2, LOW, HIGH}) {
            Check.raises("wear of " + number, Check.INDEX, x, () -> x.wear(0, number));
        }
        x.coin(0);
        Routes.press(x, 0, 1);
        Check.due("wear of the other bumper", x.wear(0, 0), 0);
        Check.due("wear behind a hit", x.wear(0, 1), 1);
        x.stick(0, 1);
        Routes.pressAndWait(x, 0, 1);
        Check.due("wear grows as the switch sticks, by the hit alone", x.wear(0, 1), 2);
    }

    public static void main(String[] args) {
        promise1NewObject();
        promise2AddTable();
        promise3AddBumper();
        promise4SetPoints();
        promise5SetModeArguments();
        promise5SetModeSwitches();
        promise5SetModeThatThrowsKeepsTheMode();
        promise6Tables();
        promise7And8Stick();
        promise7SixtyStickings();
        promise9Wear();
        Check.end();
    }
}
