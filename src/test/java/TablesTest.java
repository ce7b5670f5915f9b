/** Promises 1 to 9 and the term "Tables", sentence by sentence: a new object, and the tables. */
public final class TablesTest {
    private static final int LOW = Integer.MIN_VALUE;
    private static final int HIGH = Integer.MAX_VALUE;

    private TablesTest() {
    }

    private static void promise1NewObject() {
        TiltRoute x = new TiltRoute();
        Document.says(1, "Begins without tables.");
        Check.due("tables", x.tables(), 0);
        Check.raisesFor("gameAt", Check.INDEX, x, new int[] {-1, 0, 1, 5, LOW, HIGH}, x::gameAt);
        Check.raises("addBumper at 0", Check.INDEX, x, () -> x.addBumper(0, 0, 0, 101, 0));
        Check.raises("setPoints at 0", Check.INDEX, x, () -> x.setPoints(0, 0, 0));
        Check.raises("setMode at 0", Check.INDEX, x, () -> x.setMode(0, 0, -1, 102, 0));
        Check.raises("coin at 0", Check.INDEX, x, () -> x.coin(0));
        Check.raises("high at 0", Check.INDEX, x, () -> x.high(0, 0));
        new TiltRoute().addTable(1, 1);
        Check.due("tables, as another object has one", x.tables(), 0);
    }

    private static void promise2Numbers() {
        Document.says(2, "Adds a table.");
        TiltRoute x = new TiltRoute();
        x.addTable(100, 9);
        Check.due("tables", x.tables(), 1);
        Check.due("the box of a new table", x.box(0), 0);
        Check.due("missing of a new table", x.missing(0), 0);
        Check.due("gameAt of a new table", x.gameAt(0), TiltRoute.NONE);
        Check.due("high of a new table", x.high(0, 0), TiltRoute.NONE);
        Check.raises("a switch of a new table", Check.INDEX, x, () -> x.wear(0, 0));

        Document.says(2, "Returns its number.");
        Check.due("the second table", x.addTable(0, 1), 1);
        x.coin(0);
        Check.due("a third one, as a game is on", x.addTable(0, 1), 2);

        Document.says(2, "Tables are numbered from 0, at most 6.");
        TiltRoute z = new TiltRoute();
        for (int i = 0; i < 6; i++) {
            Check.due("addTable", z.addTable(50, 5), i);
        }
        for (int i = 0; i < 6; i++) {
            Check.due("the table " + i, z.gameAt(i), TiltRoute.NONE);
        }
        Check.raises("the table 6", Check.INDEX, z, () -> z.gameAt(6));

        Document.says(2, "Throws `IllegalStateException` if there are 6");
        Check.raises("a seventh table", Check.STATE, z, () -> z.addTable(0, 1));
        Check.raises("a seventh table again", Check.STATE, z, () -> z.addTable(100, 9));
        Check.due("tables", z.tables(), 6);
    }

    private static void promise2Ranges() {
        TiltRoute x = new TiltRoute();
        Document.says(2, "`site`: 0 to 100");
        Check.due("site 0", x.addTable(0, 1), 0);
        Check.due("site 100", x.addTable(100, 1), 1);
        Check.raisesFor("site", Check.ARGUMENT, x, Check.outside(0, 100), site -> x.addTable(site, 1));

        Document.says(2, "`price`: 1 to 9");
        Check.due("price 1", x.addTable(0, 1), 2);
        Check.due("price 9", x.addTable(0, 9), 3);
        Check.raisesFor("price", Check.ARGUMENT, x, Check.outside(1, 9), price -> x.addTable(0, price));
        x.coin(2);
        x.coin(3);
        Check.due("the box for 1", x.box(2), 1);
        Check.due("the box for 9", x.box(3), 9);

        Document.says(2, "Throws `IllegalArgumentException` if site or price is out of range");
        Check.raises("both out of range", Check.ARGUMENT, x, () -> x.addTable(101, 0));
        x.addTable(0, 1);
        x.addTable(0, 1);
        Check.raises("a seventh table at 101", Check.ARGUMENT, x, () -> x.addTable(101, 1));
        Check.raises("a seventh table at -1", Check.ARGUMENT, x, () -> x.addTable(-1, 1));
        Check.raises("a seventh table for 10", Check.ARGUMENT, x, () -> x.addTable(0, 10));
        Check.raises("a seventh table for 0", Check.ARGUMENT, x, () -> x.addTable(0, 0));

        Document.says(2, "A table has a site, 0 to 100, a price in coins, and a coin box.");
        TiltRoute z = new TiltRoute();
        z.addTable(100, 3);
        z.addTable(0, 7);
        z.addBumper(0, 0, 0, 101, 0);
        z.addBumper(1, 0, 0, 101, 0);
        Routes.playEmpty(z, 1);
        Check.due("the box of the table that is played at", z.box(1), 7);
        Check.due("the box of the other table", z.box(0), 0);
        Routes.playEmpty(z, 0);
        Check.due("its box, behind a play", z.box(0), 3);
        z.stick(0, 0);
        Check.due("the way to the site 100", z.way(0), 100);
        z.load(0, TiltRoute.SWITCHES, 1);
        z.go(0);
        Check.due("the site of the first table", z.vanAt(0), 100);
        z.stick(1, 0);
        Check.due("the way to the site 0", z.way(1), 0);
        z.rob(1, 1);
        Check.due("the box behind a robbery", z.box(1), 6);
    }

    /** Tells whether the first entry of a ball is that of a hit of the bumper 0 in step 1. */
    private static boolean bumpsAtOnce(int x, int right, int down, int[] bumper) {
        TiltRoute route = Routes.begun(bumper);
        route.shoot(0, x, right, down);
        return route.logged(0) > 0 && route.entryAt(0, 0) == 1 << 8;
    }

    private static void field() {
        Document.says(2, "Its field has the parts x from 0 to 159, to the right, and y from 0 to 239, downwards.");
        TiltRoute x = Routes.begun();
        Check.due("a ball from 0", x.shoot(0, 0, 0, 0), 0);
        Check.due("a ball from 159", x.shoot(0, 159, 0, 0), 0);
        Check.raises("a ball from -1", Check.ARGUMENT, x, () -> x.shoot(0, -1, 0, 0));
        Check.raises("a ball from 160", Check.ARGUMENT, x, () -> x.shoot(0, 160, 0, 0));
        Check.due("5 to the right of 100 is 105", bumpsAtOnce(100, 5, 30, Routes.bumper(105, 0, 101, 0)), true);
        Check.due("it is not 95", bumpsAtOnce(100, 5, 30, Routes.bumper(95, 0, 101, 0)), false);
        Check.due("7 downwards of 0 is 7", bumpsAtOnce(100, 0, 5, Routes.bumper(100, 7, 101, 0)), true);
        Check.due("0 is in the field", bumpsAtOnce(1, -1, 30, Routes.bumper(0, 0, 101, 0)), true);
        Check.due("159 is in the field", bumpsAtOnce(158, 1, 30, Routes.bumper(159, 0, 101, 0)), true);
        TiltRoute z = Routes.begun(Routes.bumper(20, 239, 160, 0));
        z.shoot(0, 20, 0, 30);
        Check.due("240 is not in the field", z.logged(0), 0);
        z.shoot(0, 20, 0, 27);
        Check.due("239 is in the field", z.entryAt(0, 0), (8L << 8) + (1 << 4));
    }

    private static void promise3Numbers() {
        Document.says(3, "Adds a bumper to a table.");
        TiltRoute x = new TiltRoute();
        x.addTable(0, 1);
        x.addTable(0, 1);
        x.addBumper(1, 0, 0, 101, 0);
        Check.due("the wear of a new bumper", x.wear(1, 0), 0);
        Check.due("whether its switch sticks", x.sticks(1, 0), false);
        Check.raises("a switch of the other table", Check.INDEX, x, () -> x.sticks(0, 0));
        Check.raises("a second switch", Check.INDEX, x, () -> x.sticks(1, 1));

        Document.says(3, "Returns its number.");
        Check.due("the second bumper", x.addBumper(1, 0, 0, 101, 0), 1);
        Check.due("the first one of the other table", x.addBumper(0, 0, 0, 101, 0), 0);

        Document.says(3, "A table has bumpers, numbered from 0, at most 8.");
        for (int i = 1; i < 8; i++) {
            Check.due("addBumper", x.addBumper(0, 20 * i, 0, 101, 0), i);
        }
        Check.due("the wear of the bumper 7", x.wear(0, 7), 0);
        Check.raises("the bumper 8", Check.INDEX, x, () -> x.wear(0, 8));

        Document.says(3, "Throws `IllegalStateException` if a game is on at the table, or it has 8");
        Check.raises("a ninth bumper", Check.STATE, x, () -> x.addBumper(0, 0, 0, 101, 0));
        Check.due("a third bumper of the other table", x.addBumper(1, 0, 0, 101, 0), 2);
        x.coin(1);
        Check.raises("addBumper in a game", Check.STATE, x, () -> x.addBumper(1, 0, 0, 101, 0));
        Routes.miss(x, 1);
        Routes.miss(x, 1);
        Check.raises("addBumper with a ball left", Check.STATE, x, () -> x.addBumper(1, 0, 0, 101, 0));
        Routes.miss(x, 1);
        Check.due("addBumper behind the game", x.addBumper(1, 0, 0, 101, 0), 3);
        x.coin(0);
        Check.raises("a ninth bumper in a game", Check.STATE, x, () -> x.addBumper(0, 0, 0, 101, 0));
        Check.due("addBumper in a game at the other table", x.addBumper(1, 0, 0, 101, 0), 4);
    }

    private static void promise3Ranges() {
        TiltRoute x = new TiltRoute();
        x.addTable(0, 1);
        Document.says(3, "`table`: a table");
        Check.due("addBumper at 0", x.addBumper(0, 0, 0, 101, 0), 0);
        Check.raisesFor("addBumper at", Check.INDEX, x, Check.outside(0, 0), table -> x.addBumper(table, 0, 0, 101, 0));

        Document.says(3, "`left`: 0 to 159");
        Check.due("left 0", x.addBumper(0, 0, 0, 101, 0), 1);
        Check.due("left 159", x.addBumper(0, 159, 0, 101, 0), 2);
        Check.raisesFor("left", Check.ARGUMENT, x, Check.outside(0, 159), left -> x.addBumper(0, left, 0, 101, 0));

        Document.says(3, "`top`: 0 to 239");
        Check.due("top 239", x.addBumper(0, 0, 239, 101, 0), 3);
        Check.raisesFor("top", Check.ARGUMENT, x, Check.outside(0, 239), top -> x.addBumper(0, 0, top, 101, 0));

        Document.says(3, "`size`: 100 times its width, and its height, added; each of both 1 to 60");
        Check.due("60 wide and 60 high", x.addBumper(0, 159, 239, 6060, 0), 4);
        Check.due("1 wide and 60 high", x.addBumper(0, 0, 0, 160, 0), 5);
        int[] sizes = {0, 1, 60, 61, 99, 100, 161, 199, 200, 6000, 6061, 6099, 6100, 6101, 6160, 10101, -1, -60, -101,
            -6060, -100, LOW, HIGH, LOW + 101, 65536 + 101, 101 - 65536};
        Check.raisesFor("size", Check.ARGUMENT, x, sizes, size -> x.addBumper(0, 0, 0, size, 0));

        Document.says(3, "`kick`: 0 to 20");
        Check.due("kick 0", x.addBumper(0, 0, 0, 101, 0), 6);
        Check.raisesFor("kick", Check.ARGUMENT, x, Check.outside(0, 20), kick -> x.addBumper(0, 0, 0, 101, kick));
        Check.due("kick 20", x.addBumper(0, 0, 0, 101, 20), 7);

        Document.says(3, "Throws `IndexOutOfBoundsException` if there is no such table");
        Check.raises("no table, and all else out of range", Check.INDEX, x, () -> x.addBumper(1, -1, -1, -1, -1));
        Check.raises("the table -1 and left 160", Check.INDEX, x, () -> x.addBumper(-1, 160, 0, 101, 0));

        Document.says(3, "Throws `IllegalArgumentException` if left, top, size or kick is out of range");
        Check.raises("a ninth bumper at left 160", Check.ARGUMENT, x, () -> x.addBumper(0, 160, 0, 101, 0));
        Check.raises("a ninth bumper at top -1", Check.ARGUMENT, x, () -> x.addBumper(0, 0, -1, 101, 0));
        Check.raises("a ninth bumper of no size", Check.ARGUMENT, x, () -> x.addBumper(0, 0, 0, 0, 0));
        Check.raises("a ninth bumper of 60 and 61", Check.ARGUMENT, x, () -> x.addBumper(0, 0, 0, 6061, 0));
        Check.raises("a ninth bumper of kick 21", Check.ARGUMENT, x, () -> x.addBumper(0, 0, 0, 101, 21));
        TiltRoute z = Routes.begun();
        Check.raises("left -1 in a game", Check.ARGUMENT, z, () -> z.addBumper(0, -1, 0, 101, 0));
        Check.raises("top 240 in a game", Check.ARGUMENT, z, () -> z.addBumper(0, 0, 240, 101, 0));
        Check.raises("size 100 in a game", Check.ARGUMENT, z, () -> z.addBumper(0, 0, 0, 100, 0));
        Check.raises("kick -1 in a game", Check.ARGUMENT, z, () -> z.addBumper(0, 0, 0, 101, -1));
    }

    private static void boxes() {
        Document.says(3, "A bumper has a box (all x from its left on, its width of them, and all y from its top on, "
                + "its height of them), a kick, 0 to 20, and a switch with the number of the bumper; boxes may lie "
                + "over one another.");
        int[] box = Routes.bumper(40, 20, 1005, 0);
        for (int x = 38; x <= 51; x++) {
            for (int y = 18; y <= 26; y++) {
                boolean inside = x >= 40 && x <= 49 && y >= 20 && y <= 24;
                Check.due("with y at " + x + " " + y, bumpsAtOnce(x, 0, y - 2, box), inside);
            }
            int[] flat = Routes.bumper(40, 0, 1001, 0);
            Check.due("to the right, at " + x, bumpsAtOnce(x - 20, 20, 30, flat), x >= 40 && x <= 49);
            Check.due("to the left, at " + x, bumpsAtOnce(x + 20, -20, 30, flat), x >= 40 && x <= 49);
        }
        Check.due("60 wide, the last x", bumpsAtOnce(89, 10, 30, Routes.bumper(40, 0, 6001, 0)), true);
        Check.due("60 wide, behind it", bumpsAtOnce(90, 10, 30, Routes.bumper(40, 0, 6001, 0)), false);
        Check.due("60 high, the last y", bumpsAtNinety(Routes.bumper(40, 31, 160, 0)), true);
        Check.due("60 high, below it", bumpsAtNinety(Routes.bumper(40, 30, 160, 0)), false);
        Check.due("60 high, the first y", bumpsAtNinety(Routes.bumper(40, 90, 160, 0)), true);
        Check.due("60 high, above it", bumpsAtNinety(Routes.bumper(40, 91, 129, 0)), false);
        Check.due("a box over the right edge", bumpsAtOnce(130, 29, 30, Routes.bumper(159, 0, 6001, 0)), true);
        TiltRoute x = Routes.withBumpers(Routes.bumper(10, 0, 101, 3));
        for (int i = 1; i < 8; i++) {
            Check.due("a box over another one", x.addBumper(0, 10, 0, 101, 3), i);
        }
        for (int i = 0; i < 8; i++) {
            TiltRoute z = Routes.withButtons(8);
            z.setPoints(0, i, 7);
            z.coin(0);
            Check.due("the switch of the bumper " + i, Routes.press(z, 0, i), 7);
            Check.due("the wear of the bumper " + i, z.wear(0, i), 1);
        }
    }

    /** Tells whether a ball hits this bumper with x in step 4, as it comes from 30 to 40 at y 90. */
    private static boolean bumpsAtNinety(int[] bumper) {
        TiltRoute route = Routes.begun(bumper);
        route.shoot(0, 0, 10, 30);
        return route.logged(0) > 0 && route.entryAt(0, 0) == 4 << 8;
    }

    private static void promise4Points() {
        Document.says(4, "A switch has points, 0 at first, and sticks or not.");
        TiltRoute x = Routes.withButtons(8);
        for (int i = 0; i < 8; i++) {
            Check.due("the points of " + i, x.setPoints(0, i, 0), 0);
            Check.due("whether it sticks", x.sticks(0, i), false);
        }
        x.coin(0);
        Check.due("a press for the points at first", Routes.press(x, 0, 0), 0);
        Routes.finish(x, 0);

        Document.says(4, "Sets the points of a switch.");
        x.setPoints(0, 0, 1000);
        x.setPoints(0, 7, 7);
        x.coin(0);
        Check.due("a press for 1000", Routes.press(x, 0, 0), 1000);
        Check.due("a press for 7", Routes.press(x, 0, 7), 7);
        Check.due("a press of another switch", Routes.press(x, 0, 6), 0);

        Document.says(4, "Returns the points before.");
        Check.due("the points before", x.setPoints(0, 0, 5), 1000);
        Check.due("the points before, then", x.setPoints(0, 0, 6), 5);
        Check.due("the points before of another switch", x.setPoints(0, 7, 1), 7);
    }

    private static void promise4Ranges() {
        TiltRoute x = Routes.withButtons(2);
        Routes.addButtons(x, 0, 1, 1);
        Document.says(4, "`table`: a table");
        Check.raisesFor("setPoints at", Check.INDEX, x, Check.outside(0, 1), table -> x.setPoints(table, 0, 1));

        Document.says(4, "`number`: the switch");
        Check.due("the switch 1", x.setPoints(0, 1, 3), 0);
        Check.raisesFor("the switch", Check.INDEX, x, Check.outside(0, 1), number -> x.setPoints(0, number, 1));
        Check.raises("a switch of the other table", Check.INDEX, x, () -> x.setPoints(1, 1, 1));

        Document.says(4, "`points`: 0 to 1000");
        Check.due("points 1000", x.setPoints(0, 0, 1000), 0);
        Check.due("points 0", x.setPoints(0, 0, 0), 1000);
        Check.raisesFor("points", Check.ARGUMENT, x, Check.outside(0, 1000), points -> x.setPoints(0, 0, points));
        Check.due("the points behind all these", x.setPoints(0, 0, 9), 0);

        Document.says(4, "Throws `IndexOutOfBoundsException` if there is no such table or switch");
        Check.raises("no table and points -1", Check.INDEX, x, () -> x.setPoints(2, 0, -1));
        Check.raises("no switch and points 1001", Check.INDEX, x, () -> x.setPoints(0, 2, 1001));
        x.coin(0);
        Check.raises("no switch in a game", Check.INDEX, x, () -> x.setPoints(0, 2, 1));
        Check.raises("no switch and points -1 in a game", Check.INDEX, x, () -> x.setPoints(0, -1, -1));

        Document.says(4, "Throws `IllegalArgumentException` if points is out of range");
        Check.raises("points 1001 in a game", Check.ARGUMENT, x, () -> x.setPoints(0, 0, 1001));
        Check.raises("points -1 in a game", Check.ARGUMENT, x, () -> x.setPoints(0, 0, -1));

        Document.says(4, "Throws `IllegalStateException` if a game is on at the table");
        Check.raises("setPoints in a game", Check.STATE, x, () -> x.setPoints(0, 0, 1));
        Check.due("setPoints in a game at the other table", x.setPoints(1, 0, 1), 0);
        Check.due("a press for the points as they were", Routes.press(x, 0, 0), 9);
        Routes.press(x, 0, 0);
        Check.raises("setPoints with a ball left", Check.STATE, x, () -> x.setPoints(0, 0, 1));
        Routes.press(x, 0, 0);
        Check.due("setPoints behind the game", x.setPoints(0, 0, 1), 9);
    }

    private static void promise5Defines() {
        Document.says(5, "The modes 0 to 3 of a table are not defined at first.");
        TiltRoute x = Routes.withButtons(2);
        for (int mode = 0; mode < 4; mode++) {
            Check.due("the mode " + mode, x.setMode(0, mode, -1, 102, 0), false);
        }
        int game = Routes.playPresses(x, 0, 0, 1, 0);
        Check.due("the stack of a game without modes", x.stack(game), 0);

        Document.says(5, "A mode that is defined has a switch by which it begins, one by which it ends, a limit of "
                + "hits, times by which points are taken, and a bonus.");
        TiltRoute z = Routes.withButtons(3);
        z.setPoints(0, 0, 1);
        z.setPoints(0, 1, 10);
        z.setPoints(0, 2, 100);
        z.setMode(0, 0, 1, 207, 3000);
        game = Routes.playPresses(z, 0, 2, 0, 1);
        Check.due("begun by 0, ended by 1, 7 times, and the bonus", z.score(game), 100 + 1 + 70 + 3000);
        game = Routes.playPresses(z, 0, 0, 2, 2);
        Check.due("ended by the limit 2, 7 times, and the bonus", z.score(game), 1 + 700 + 700 + 3000);
        Check.due("the stack", z.stack(game), 0);

        Document.says(5, "Defines a mode.");
        z.setMode(0, 0, 21, 103, 50);
        game = Routes.playPresses(z, 0, 0, 2, 0);
        Check.due("the mode that came in its place", z.score(game), 1 + 100 + 3 + 50);
        z.setMode(0, 0, -1, 103, 50);
        game = Routes.playPresses(z, 0, 0, 2, 0);
        Check.due("none in its place", z.score(game), 102);

        Document.says(5, "Returns whether it was defined.");
        Check.due("a mode that was set to NONE", z.setMode(0, 0, 22, 2009, 5000), false);
        Check.due("a mode that is defined", z.setMode(0, 0, 0, 102, 0), true);
        Check.due("a mode that goes", z.setMode(0, 0, -1, 2009, 5000), true);
        Check.due("a mode that is gone", z.setMode(0, 0, -1, 102, 0), false);
        Check.due("the mode 3", z.setMode(0, 3, 12, 102, 0), false);
        Check.due("the mode 2, as 3 is defined", z.setMode(0, 2, 12, 102, 0), false);
        Check.due("the mode 3 again", z.setMode(0, 3, 12, 102, 0), true);
    }

    private static void promise5Indices() {
        TiltRoute x = Routes.withButtons(3);
        Routes.addButtons(x, 0, 1, 1);
        Document.says(5, "`table`: a table");
        Check.raisesFor("setMode at", Check.INDEX, x, Check.outside(0, 1), t -> x.setMode(t, 0, -1, 102, 0));

        Document.says(5, "`mode`: 0 to 3");
        for (int mode = 0; mode < 4; mode++) {
            Check.due("the mode " + mode, x.setMode(0, mode, 0, 102, 0), false);
        }
        Check.raisesFor("the mode", Check.INDEX, x, Check.outside(0, 3), mode -> x.setMode(0, mode, -1, 102, 0));

        Document.says(5, "Throws `IndexOutOfBoundsException` if there is no such table or mode, or switches is 0 or "
                + "more, and there is no such switch, of either");
        int[] noSwitch = {3, 9, 13, 23, 29, 30, 31, 32, 33, 70, 77, 80, 90, 99, 100, 110, 122, 1000, 65536, HIGH};
        Check.raisesFor("switches", Check.INDEX, x, noSwitch, switches -> x.setMode(0, 0, switches, 102, 0));
        Check.raisesFor("limit 0 and switches", Check.INDEX, x, noSwitch, n -> x.setMode(0, 0, n, 0, 0));
        Check.raisesFor("bonus -1 and switches", Check.INDEX, x, noSwitch, n -> x.setMode(0, 0, n, 102, -1));
        Check.raises("a switch of the other table", Check.INDEX, x, () -> x.setMode(1, 0, 10, 102, 0));
        Check.raises("an ending switch of the other table", Check.INDEX, x, () -> x.setMode(1, 0, 1, 102, 0));
        Check.raises("no table and switches -2", Check.INDEX, x, () -> x.setMode(2, 0, -2, 102, 0));
        Check.raises("no mode and switches -2", Check.INDEX, x, () -> x.setMode(0, 4, -2, 102, 0));
        Check.raises("no mode and limit 0", Check.INDEX, x, () -> x.setMode(0, -1, -1, 0, 0));
        Check.raises("no mode and bonus 5001", Check.INDEX, x, () -> x.setMode(0, 4, -1, 102, 5001));
        TiltRoute z = new TiltRoute();
        z.addTable(0, 1);
        Check.raises("switches 0 without bumpers", Check.INDEX, z, () -> z.setMode(0, 0, 0, 102, 0));
        Check.due("NONE without bumpers", z.setMode(0, 0, -1, 102, 0), false);
        x.coin(0);
        Check.raises("no table in a game", Check.INDEX, x, () -> x.setMode(-1, 0, -1, 102, 0));
        Check.raises("no mode in a game", Check.INDEX, x, () -> x.setMode(0, 4, -1, 102, 0));
        Check.raises("no switch in a game", Check.INDEX, x, () -> x.setMode(0, 0, 3, 102, 0));
        Check.raises("no beginning switch in a game", Check.INDEX, x, () -> x.setMode(0, 0, 30, 102, 0));
    }

    private static void promise5Switches() {
        Document.says(5, "`switches`: 10 times the switch by which it begins, and that by which it ends, added; NONE "
                + "so that it is not defined (limit and bonus have to be in their ranges all the same)");
        for (int begins = 0; begins < 8; begins++) {
            TiltRoute x = Routes.withButtons(8);
            for (int ends = 0; ends < 8; ends++) {
                Check.due("it was defined", x.setMode(0, 0, 10 * begins + ends, 2002, 0), ends > 0);
                int game = x.coin(0);
                Routes.press(x, 0, begins);
                Check.due("the stack behind the beginning by " + begins, x.stack(game), 1);
                Routes.press(x, 0, ends);
                Check.due("the stack behind the end by " + ends, x.stack(game), 0);
                Routes.press(x, 0, (begins + 1) % 8);
                Check.due("the stack behind another switch", x.stack(game), 0);
            }
        }
        TiltRoute z = Routes.withButtons(1);
        z.setMode(0, 0, 0, 102, 0);
        for (int limit : new int[] {0, 100, 101, 110, 2102, LOW, HIGH}) {
            Check.raises("NONE and limit " + limit, Check.ARGUMENT, z, () -> z.setMode(0, 0, -1, limit, 0));
        }
        for (int bonus : new int[] {-1, 5001, LOW, HIGH}) {
            Check.raises("NONE and bonus " + bonus, Check.ARGUMENT, z, () -> z.setMode(0, 0, -1, 102, bonus));
        }
        Check.due("NONE", z.setMode(0, 0, TiltRoute.NONE, 102, 5000), true);
        Check.due("NONE again, with other ends of the ranges", z.setMode(0, 0, TiltRoute.NONE, 2009, 0), false);
    }

    private static void promise5Ranges() {
        TiltRoute x = Routes.withButtons(3);
        Document.says(5, "`limit`: 100 times the limit, 1 to 20, and the times, 2 to 9, added");
        int[] wrong = {0, 2, 9, 99, 100, 101, 110, 199, 2000, 2001, 2010, 2099, 2100, 2102, 2109, -102, -2009, -1, LOW,
            HIGH, LOW + 102, 65536 + 102, 102 - 65536};
        Check.raisesFor("limit", Check.ARGUMENT, x, wrong, limit -> x.setMode(0, 0, 0, limit, 0));
        Check.due("limit 102", x.setMode(0, 0, 0, 102, 0), false);
        Check.due("limit 109", x.setMode(0, 0, 0, 109, 0), true);
        Check.due("limit 2002", x.setMode(0, 0, 0, 2002, 0), true);
        Check.due("limit 2009", x.setMode(0, 0, 0, 2009, 0), true);

        Document.says(5, "`bonus`: 0 to 5000");
        Check.raisesFor("bonus", Check.ARGUMENT, x, Check.outside(0, 5000), bonus -> x.setMode(0, 0, 0, 102, bonus));
        Check.due("bonus 0", x.setMode(0, 1, 0, 102, 0), false);
        Check.due("bonus 5000", x.setMode(0, 1, 1, 102, 5000), true);

        Document.says(5, "Throws `IllegalArgumentException` if switches is below -1, or limit or bonus is out of "
                + "range");
        int[] below = {-2, -3, -10, -11, -100, 10 - 65536, LOW, LOW + 1, LOW + 10, -HIGH};
        Check.raisesFor("switches", Check.ARGUMENT, x, below, switches -> x.setMode(0, 0, switches, 102, 0));
        Check.due("switches -1", x.setMode(0, 2, -1, 102, 0), false);
        x.coin(0);
        Check.raises("switches -2 in a game", Check.ARGUMENT, x, () -> x.setMode(0, 0, -2, 102, 0));
        Check.raises("limit 101 in a game", Check.ARGUMENT, x, () -> x.setMode(0, 0, 0, 101, 0));
        Check.raises("limit 2102 in a game", Check.ARGUMENT, x, () -> x.setMode(0, 0, -1, 2102, 0));
        Check.raises("bonus 5001 in a game", Check.ARGUMENT, x, () -> x.setMode(0, 3, -1, 102, 5001));
        Check.raises("bonus -1 in a game", Check.ARGUMENT, x, () -> x.setMode(0, 3, 0, 102, -1));

        Document.says(5, "Throws `IllegalStateException` if a game is on at the table");
        Check.raises("setMode in a game", Check.STATE, x, () -> x.setMode(0, 0, 11, 102, 0));
        Check.raises("NONE in a game", Check.STATE, x, () -> x.setMode(0, 0, -1, 102, 0));
        Routes.press(x, 0, 0);
        Check.due("the stack, by the mode as it was", x.stack(0), 1);
        Routes.addButtons(x, 0, 1, 1);
        Check.due("setMode in a game at the other table", x.setMode(1, 0, 0, 102, 0), false);
        Routes.miss(x, 0);
        Check.raises("setMode with a ball left", Check.STATE, x, () -> x.setMode(0, 0, -1, 102, 0));
        Routes.miss(x, 0);
        Check.due("the mode 0 behind the game", x.setMode(0, 0, -1, 102, 0), true);
        Check.due("the mode 3 behind the game", x.setMode(0, 3, -1, 102, 0), false);
    }

    private static void promise6Tables() {
        Document.says(6, "Returns how many tables there are.");
        TiltRoute x = new TiltRoute();
        for (int i = 0; i < 6; i++) {
            Check.due("tables", x.tables(), i);
            Check.raises("a table that is refused", Check.ARGUMENT, x, () -> x.addTable(0, 0));
            x.addTable(i, 1);
        }
        Check.due("tables", x.tables(), 6);
        Check.raises("a seventh table", Check.STATE, x, () -> x.addTable(0, 1));
        Check.due("tables behind it", x.tables(), 6);
    }

    private static void promise7Stick() {
        Document.says(7, "Lets a switch stick.");
        TiltRoute x = new TiltRoute();
        Routes.addButtons(x, 10, 1, 2);
        Routes.addButtons(x, 20, 1, 1);
        x.stick(0, 1);
        Check.due("the switch", x.sticks(0, 1), true);
        Check.due("another switch", x.sticks(0, 0), false);
        Check.due("a switch of the other table", x.sticks(1, 0), false);

        Document.says(7, "Returns the number of the sticking.");
        Check.due("the second sticking", x.stick(1, 0), 1);
        x.coin(0);
        Check.due("the third sticking, in a game", x.stick(0, 0), 2);
        x.load(0, TiltRoute.SWITCHES, 1);
        x.go(0);
        Check.due("a new sticking of a switch that was mended", x.stick(1, 0), 3);

        Document.says(7, "`table`: a table");
        Check.raisesFor("stick at", Check.INDEX, x, Check.outside(0, 1), table -> x.stick(table, 0));

        Document.says(7, "`number`: the switch");
        Check.raisesFor("stick of", Check.INDEX, x, Check.outside(0, 1), number -> x.stick(0, number));
        Check.raises("a switch of the other table", Check.INDEX, x, () -> x.stick(1, 1));
        TiltRoute z = Routes.withButtons(8);
        Check.due("the switch 7", z.stick(0, 7), 0);
        Check.raises("the switch 8", Check.INDEX, z, () -> z.stick(0, 8));
    }

    private static void promise7SixtyStickings() {
        Document.says(7, "Stickings are numbered from 0, at most 60, in the order in which they begin; each is of a "
                + "table and a switch, until it is mended.");
        TiltRoute x = Routes.withButtons(8);
        int sticking = 0;
        while (sticking < 59) {
            for (int i = 0; i < 8 && sticking < 59; i++) {
                Check.due("a sticking", x.stick(0, i), sticking);
                Check.due("the switch of the sticking", x.sticks(0, i), true);
                sticking++;
            }
            x.load(0, TiltRoute.SWITCHES, 8 - x.parts(0, TiltRoute.SWITCHES));
            x.go(0);
            Check.due("a switch behind the mending", x.sticks(0, 0), false);
        }
        Check.due("the last sticking", x.stick(0, 4), 59);

        Document.says(7, "Throws `IllegalStateException` if it sticks, or there were 60");
        Check.raises("a sticking 60", Check.STATE, x, () -> x.stick(0, 5));
        Check.raises("a sticking 60 of a switch that sticks", Check.STATE, x, () -> x.stick(0, 4));
        Check.due("the switch without a sticking", x.sticks(0, 5), false);
        x.load(0, TiltRoute.SWITCHES, 1);
        x.go(0);
        Check.raises("a sticking 60 behind the mending", Check.STATE, x, () -> x.stick(0, 4));
        x.coin(0);
        Routes.wait(x, 0);
        Check.due("closings without a sticking", x.logged(0), 0);
        TiltRoute z = Routes.withButtons(2);
        z.stick(0, 0);
        Check.raises("stick of a switch that sticks", Check.STATE, z, () -> z.stick(0, 0));
        Check.due("the next sticking", z.stick(0, 1), 1);
        z.coin(0);
        Check.raises("stick of a switch that sticks, in a game", Check.STATE, z, () -> z.stick(0, 1));

        Document.says(7, "Throws `IndexOutOfBoundsException` if there is no such table or switch");
        Check.raises("no switch, as there were 60", Check.INDEX, x, () -> x.stick(0, 8));
        Check.raises("no table, as there were 60", Check.INDEX, x, () -> x.stick(1, 0));
        Check.raises("the table -1, as there were 60", Check.INDEX, x, () -> x.stick(-1, 0));
    }

    private static void promise8Sticks() {
        TiltRoute x = new TiltRoute();
        Routes.addButtons(x, 10, 1, 2);
        Routes.addButtons(x, 20, 1, 1);
        Document.says(8, "Tells whether a switch sticks.");
        Check.due("at first", x.sticks(0, 1), false);
        x.stick(0, 1);
        Check.due("as it sticks", x.sticks(0, 1), true);
        Check.due("another one", x.sticks(0, 0), false);
        x.coin(0);
        Check.due("in a game", x.sticks(0, 1), true);
        Routes.finish(x, 0);
        x.go(0);
        Check.due("as the van had no part", x.sticks(0, 1), true);
        x.load(0, TiltRoute.SWITCHES, 1);
        x.go(0);
        Check.due("as it is mended", x.sticks(0, 1), false);

        Document.says(8, "`table`: a table");
        Check.raisesFor("sticks at", Check.INDEX, x, Check.outside(0, 1), table -> x.sticks(table, 0));

        Document.says(8, "`number`: the switch");
        Check.raisesFor("sticks of", Check.INDEX, x, Check.outside(0, 1), number -> x.sticks(0, number));

        Document.says(8, "Throws `IndexOutOfBoundsException` if there is no such table or switch");
        Check.raises("a switch of the other table", Check.INDEX, x, () -> x.sticks(1, 1));
        Check.raises("no table and no switch", Check.INDEX, x, () -> x.sticks(2, 2));
        TiltRoute z = Routes.withBumpers();
        Check.raises("a table without switches", Check.INDEX, z, () -> z.sticks(0, 0));
    }

    private static void promise9Wear() {
        Document.says(9, "A bumper has a wear, 0 at first; with a wear of 40 or more it is broken.");
        TiltRoute x = Routes.withButtons(2);
        Check.due("wear at first", x.wear(0, 1), 0);
        for (int i = 0; i < 13; i++) {
            Routes.playPresses(x, 0, 1, 1, 1);
        }
        Check.due("wear", x.wear(0, 1), 39);
        Check.due("broken bumpers with a wear of 39", x.wanted(TiltRoute.COILS), 0);
        Routes.playPresses(x, 0, 1, 0, 0);
        Check.due("wear", x.wear(0, 1), 40);
        Check.due("broken bumpers with a wear of 40", x.wanted(TiltRoute.COILS), 1);
        Routes.playPresses(x, 0, 1, 0, 0);
        Check.due("broken bumpers with a wear of 41", x.wanted(TiltRoute.COILS), 1);

        Document.says(9, "Returns the wear of a bumper.");
        Check.due("wear", x.wear(0, 1), 41);
        Check.due("wear of the other bumper", x.wear(0, 0), 4);
        x.coin(0);
        x.stick(0, 1);
        Routes.pressAndWait(x, 0, 1);
        Check.due("wear grows as the switch sticks, by the hit alone", x.wear(0, 1), 42);

        Document.says(9, "`table`: a table");
        Check.raisesFor("wear at", Check.INDEX, x, Check.outside(0, 0), table -> x.wear(table, 0));

        Document.says(9, "`number`: its switch");
        Check.raisesFor("wear of", Check.INDEX, x, Check.outside(0, 1), number -> x.wear(0, number));

        Document.says(9, "Throws `IndexOutOfBoundsException` if there is no such table or switch");
        x.addTable(0, 1);
        Check.raises("a table without bumpers", Check.INDEX, x, () -> x.wear(1, 0));
        Check.raises("no table and no switch", Check.INDEX, x, () -> x.wear(2, 8));
    }

    public static void main(String[] args) {
        promise1NewObject();
        promise2Numbers();
        promise2Ranges();
        field();
        promise3Numbers();
        promise3Ranges();
        boxes();
        promise4Points();
        promise4Ranges();
        promise5Defines();
        promise5Indices();
        promise5Switches();
        promise5Ranges();
        promise6Tables();
        promise7Stick();
        promise7SixtyStickings();
        promise8Sticks();
        promise9Wear();
        Document.demandPromises(1, 9);
        Document.demandTerm("Tables", 1, 3);
        Check.end();
    }
}
