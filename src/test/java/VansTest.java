/** Promises 23 to 32: coin boxes, spare parts, and vans. */
public final class VansTest {
    private static final int LOW = Integer.MIN_VALUE;
    private static final int HIGH = Integer.MAX_VALUE;

    private VansTest() {
    }

    /** A route with a table with a button at each of these sites, each with a switch that sticks. */
    private static TiltRoute sticking(int... sites) {
        TiltRoute x = new TiltRoute();
        for (int i = 0; i < sites.length; i++) {
            Routes.addButtons(x, sites[i], 1, 1);
            x.stick(i, 0);
        }
        return x;
    }

    /** The same, with the van 1 at a site: a table behind the others, whose switch has been mended. */
    private static TiltRoute stickingFrom(int from, int... sites) {
        TiltRoute x = new TiltRoute();
        for (int site : sites) {
            Routes.addButtons(x, site, 1, 1);
        }
        Routes.addButtons(x, from, 1, 1);
        x.stick(sites.length, 0);
        x.load(1, TiltRoute.SWITCHES, 1);
        x.go(1);
        Check.due("the site from which it goes", x.vanAt(1), from);
        for (int i = 0; i < sites.length; i++) {
            x.stick(i, 0);
        }
        return x;
    }

    private static void promises23And24() {
        TiltRoute x = new TiltRoute();
        Routes.addButtons(x, 0, 9, 1);
        Routes.addButtons(x, 0, 4, 1);
        for (int table : new int[] {-1, 2, LOW, HIGH}) {
            Check.raises("rob at " + table, Check.INDEX, x, () -> x.rob(table, 0));
            Check.raises("box at " + table, Check.INDEX, x, () -> x.box(table));
        }
        for (int coins : new int[] {0, 101, -1, LOW, HIGH}) {
            Check.raises("rob " + coins, Check.ARGUMENT, x, () -> x.rob(0, coins));
        }
        Check.raises("rob an empty box", Check.STATE, x, () -> x.rob(0, 1));
        Check.raises("rob 100 from an empty box", Check.STATE, x, () -> x.rob(0, 100));
        for (int i = 0; i < 12; i++) {
            Routes.playEmpty(x, 0);
        }
        Check.due("the box", x.box(0), 108);
        Check.due("the box of the other table", x.box(1), 0);
        Check.due("rob 100", x.rob(0, 100), 8);
        Check.raises("rob 9 of 8", Check.STATE, x, () -> x.rob(0, 9));
        Check.due("rob 1", x.rob(0, 1), 7);
        Check.due("the box", x.box(0), 7);
        x.coin(0);
        Check.due("rob in a game", x.rob(0, 16), 0);
        Check.due("missing, as the box was not emptied", x.missing(0), 0);
    }

    private static void promise25Missing() {
        TiltRoute x = new TiltRoute();
        Routes.addButtons(x, 10, 9, 1);
        Routes.addButtons(x, 20, 5, 1);
        for (int table : new int[] {-1, 2, LOW, HIGH}) {
            Check.raises("missing at " + table, Check.INDEX, x, () -> x.missing(table));
        }
        Routes.playEmpty(x, 1);
        x.rob(1, 2);
        for (int i = 0; i < 3; i++) {
            Routes.playEmpty(x, 0);
        }
        x.rob(0, 3);
        x.rob(0, 1);
        Check.due("missing ahead of the emptying", x.missing(0), 0);
        Check.due("go", x.go(0), 23);
        Check.due("missing", x.missing(0), 4);
        Check.due("missing of the table that was not served", x.missing(1), 0);
        Check.due("its box", x.box(1), 3);
        Check.due("the box", x.box(0), 0);
        x.stick(0, 0);
        x.load(0, TiltRoute.SWITCHES, 1);
        Check.due("go to an empty box", x.go(0), 0);
        Check.due("missing behind it", x.missing(0), 4);
        Routes.playEmpty(x, 0);
        Routes.playEmpty(x, 0);
        x.rob(0, 10);
        x.stick(0, 0);
        Check.due("go without a spare part", x.go(0), 8);
        Check.due("missing, added up", x.missing(0), 14);
        Routes.playEmpty(x, 0);
        Check.due("go for one play", x.go(1), 9);
        Check.due("missing, as before", x.missing(0), 14);
    }

    private static void promises26And27() {
        TiltRoute x = new TiltRoute();
        for (int van : new int[] {-1, 2, LOW, HIGH}) {
            Check.raises("load of " + van, Check.INDEX, x, () -> x.load(van, 2, 0));
            Check.raises("parts of " + van, Check.INDEX, x, () -> x.parts(van, 2));
        }
        for (int kind : new int[] {-1, 2, LOW, HIGH}) {
            Check.raises("load kind " + kind, Check.ARGUMENT, x, () -> x.load(0, kind, 1));
            Check.raises("parts of kind " + kind, Check.ARGUMENT, x, () -> x.parts(0, kind));
        }
        for (int count : new int[] {0, 21, -1, LOW, HIGH}) {
            Check.raises("load " + count, Check.ARGUMENT, x, () -> x.load(1, TiltRoute.COILS, count));
        }
        Check.due("load 20", x.load(0, TiltRoute.SWITCHES, 20), 20);
        Check.raises("load 1 more", Check.STATE, x, () -> x.load(0, TiltRoute.SWITCHES, 1));
        Check.raises("load 20 more", Check.STATE, x, () -> x.load(0, TiltRoute.SWITCHES, 20));
        Check.raises("load 21 more", Check.ARGUMENT, x, () -> x.load(0, TiltRoute.SWITCHES, 21));
        Check.due("load 7 coils", x.load(0, TiltRoute.COILS, 7), 7);
        Check.due("load 12 coils", x.load(0, TiltRoute.COILS, 12), 19);
        Check.raises("load 2 coils", Check.STATE, x, () -> x.load(0, TiltRoute.COILS, 2));
        Check.due("load 1 coil", x.load(0, TiltRoute.COILS, 1), 20);
        Check.due("load the other van", x.load(1, TiltRoute.COILS, 3), 3);
        Check.due("switches of van 0", x.parts(0, TiltRoute.SWITCHES), 20);
        Check.due("coils of van 0", x.parts(0, TiltRoute.COILS), 20);
        Check.due("switches of van 1", x.parts(1, TiltRoute.SWITCHES), 0);
        Check.due("coils of van 1", x.parts(1, TiltRoute.COILS), 3);
    }

    private static void promise28Wanted() {
        TiltRoute x = new TiltRoute();
        for (int kind : new int[] {-1, 2, LOW, HIGH}) {
            Check.raises("wanted of kind " + kind, Check.ARGUMENT, x, () -> x.wanted(kind));
        }
        Check.due("wanted without tables", x.wanted(TiltRoute.SWITCHES), 0);
        Routes.addButtons(x, 0, 1, 3);
        x.addTable(0, 1);
        x.addBumper(1, 0, 0, 6060, 0);
        x.stick(0, 0);
        x.stick(0, 2);
        x.stick(1, 0);
        Check.due("wanted switches", x.wanted(TiltRoute.SWITCHES), 3);
        Check.due("wanted coils", x.wanted(TiltRoute.COILS), 0);
        x.coin(1);
        x.shoot(1, 30, 0, 0);
        Check.due("wanted coils, of a table with a game", x.wanted(TiltRoute.COILS), 1);
        Check.due("wanted switches, of a table with a game too", x.wanted(TiltRoute.SWITCHES), 3);
        x.load(1, TiltRoute.COILS, 2);
        Check.due("wanted coils, 0 at least", x.wanted(TiltRoute.COILS), 0);
        Check.due("wanted switches, as coils are there", x.wanted(TiltRoute.SWITCHES), 3);
        x.load(0, TiltRoute.SWITCHES, 1);
        Check.due("wanted switches, less one", x.wanted(TiltRoute.SWITCHES), 2);
        x.load(1, TiltRoute.SWITCHES, 1);
        Check.due("wanted switches, less those of both", x.wanted(TiltRoute.SWITCHES), 1);
        x.go(0);
        Check.due("wanted switches, as one is mended", x.wanted(TiltRoute.SWITCHES), 1);
    }

    private static void duePlan(String told, TiltRoute x, int van, int way, String plan) {
        Check.due(told + ": the way", x.way(van), way);
        Check.due(told + ": the plan", Check.planOf(x, van), plan);
    }

    private static void promises29And30Arguments() {
        TiltRoute x = sticking(10, 20);
        for (int van : new int[] {-1, 2, LOW, HIGH}) {
            Check.raises("way of " + van, Check.INDEX, x, () -> x.way(van));
            Check.raises("planned of " + van, Check.INDEX, x, () -> x.planned(van, 0));
            Check.raises("vanAt of " + van, Check.INDEX, x, () -> x.vanAt(van));
        }
        for (int place : new int[] {-1, 2, 6, LOW, HIGH}) {
            Check.raises("planned at " + place, Check.INDEX, x, () -> x.planned(0, place));
        }
        TiltRoute empty = new TiltRoute();
        Check.raises("planned of an empty plan", Check.INDEX, empty, () -> empty.planned(1, 0));
    }

    private static void shortestWays() {
        duePlan("rising sites", sticking(10, 20, 30), 0, 30, " 0 1 2");
        duePlan("falling sites", sticking(30, 20, 10), 1, 30, " 2 1 0");
        duePlan("the same sites", sticking(5, 5, 5), 0, 5, " 0 1 2");
        duePlan("the site 0", sticking(0, 0), 0, 0, " 0 1");
        duePlan("six tables", sticking(100, 7, 50, 50, 99, 3), 0, 100, " 5 1 2 3 4 0");
        duePlan("a table", sticking(42), 1, 42, " 0");
        duePlan("the nearer end first", stickingFrom(50, 30, 60), 1, 40, " 1 0");
        duePlan("the nearer end first, to the left", stickingFrom(50, 65, 40), 1, 35, " 1 0");
        duePlan("both ends as near", stickingFrom(50, 60, 40), 1, 30, " 0 1");
        duePlan("both ends as near, the other first", stickingFrom(50, 40, 60), 1, 30, " 0 1");
        duePlan("the first table of two ways", stickingFrom(50, 60, 60, 40), 1, 30, " 0 1 2");
        duePlan("the first one, then those on the way", stickingFrom(50, 60, 40, 45), 1, 30, " 0 2 1");
        duePlan("the first one is on the way", stickingFrom(50, 55, 60, 40), 1, 30, " 0 1 2");
        duePlan("the van of the other site", stickingFrom(50, 60, 40), 0, 60, " 1 0");
        duePlan("five tables", stickingFrom(50, 90, 20, 50, 60, 40), 1, 100, " 1 4 2 3 0");
    }

    /** With six sites on one side of the van, there is one shortest way, whatever the numbers of the tables are. */
    private static void eachOrderOfSixTables() {
        int orders = 0;
        for (int code = 0; code < 6 * 6 * 6 * 6 * 6 * 6; code++) {
            int[] sites = new int[6];
            int[] tableAt = new int[6];
            int seen = 0;
            for (int table = 0, rest = code; table < 6; table++, rest /= 6) {
                sites[table] = 10 * (rest % 6) + 10;
                tableAt[rest % 6] = table;
                seen |= 1 << rest % 6;
            }
            if (seen == 63) {
                StringBuilder plan = new StringBuilder();
                for (int table : tableAt) {
                    plan.append(' ').append(table);
                }
                duePlan("an order of six tables", sticking(sites), 0, 60, plan.toString());
                orders++;
            }
        }
        Check.due("orders of six tables", orders, 720);
    }

    private static void needsService() {
        TiltRoute x = new TiltRoute();
        for (int i = 0; i < 4; i++) {
            Routes.addButtons(x, 10 * i + 10, 4, 2);
        }
        duePlan("no need", x, 0, 0, "");
        Check.raises("go without need", Check.STATE, x, () -> x.go(0));
        for (int i = 0; i < 5; i++) {
            Check.due("the plan with less than 20 coins", Check.planOf(x, 0), "");
            x.coin(1);
            if (i < 4) {
                for (int ball = 0; ball < 3; ball++) {
                    Routes.miss(x, 1);
                }
            }
        }
        duePlan("20 coins in a game", x, 0, 0, "");
        Check.raises("go with a game alone", Check.STATE, x, () -> x.go(0));
        for (int ball = 0; ball < 3; ball++) {
            Routes.miss(x, 1);
        }
        duePlan("20 coins", x, 0, 20, " 1");
        x.rob(1, 1);
        duePlan("19 coins", x, 0, 0, "");
        x.stick(3, 1);
        duePlan("a switch that sticks", x, 0, 40, " 3");
        x.coin(3);
        duePlan("a switch that sticks, in a game", x, 0, 0, "");
        Routes.playEmpty(x, 1);
        duePlan("23 coins", x, 1, 20, " 1");
        Check.due("go", x.go(1), 23);
        Check.due("the box of the table with a game", x.box(3), 4);
        Check.due("its switch", x.sticks(3, 1), true);
    }

    /** 40 hits break the bumper; the 40th one is the first ball of the game 13. */
    private static void brokenNeedsService() {
        TiltRoute x = new TiltRoute();
        Routes.addButtons(x, 70, 1, 2);
        for (int i = 0; i < 13; i++) {
            Routes.playPresses(x, 0, 1, 1, 1);
        }
        x.rob(0, 13);
        duePlan("wear 39", x, 0, 0, "");
        x.coin(0);
        Routes.press(x, 0, 1);
        Check.due("wear", x.wear(0, 1), 40);
        duePlan("wear 40 in a game", x, 0, 0, "");
        Routes.miss(x, 0);
        Routes.miss(x, 0);
        duePlan("wear 40", x, 0, 70, " 0");
        Check.due("go without a coil", x.go(0), 1);
        Check.due("wear behind it", x.wear(0, 1), 40);
        Check.due("missing", x.missing(0), 13);
        x.load(0, TiltRoute.SWITCHES, 1);
        Check.due("go with a switch", x.go(0), 0);
        Check.due("wear behind it", x.wear(0, 1), 40);
        x.load(1, TiltRoute.COILS, 2);
        Check.due("go with two coils", x.go(1), 0);
        Check.due("wear of the mended bumper", x.wear(0, 1), 0);
        Check.due("coils left", x.parts(1, TiltRoute.COILS), 1);
        Check.due("switches left", x.parts(0, TiltRoute.SWITCHES), 1);
        Check.raises("go again", Check.STATE, x, () -> x.go(1));
    }

    private static void promise31Go() {
        TiltRoute x = new TiltRoute();
        Routes.addButtons(x, 40, 9, 3);
        Routes.addButtons(x, 90, 2, 3);
        Routes.addButtons(x, 20, 7, 3);
        for (int van : new int[] {-1, 2, LOW, HIGH}) {
            Check.raises("go of " + van, Check.INDEX, x, () -> x.go(van));
        }
        Check.raises("go without need", Check.STATE, x, () -> x.go(0));
        for (int table = 0; table < 3; table++) {
            Routes.playEmpty(x, table);
        }
        x.stick(0, 2);
        x.stick(0, 0);
        x.stick(2, 2);
        x.stick(2, 1);
        x.load(0, TiltRoute.SWITCHES, 3);
        x.load(0, TiltRoute.COILS, 3);
        Check.due("go takes the coins of the tables that it serves", x.go(0), 16);
        Check.due("the site", x.vanAt(0), 40);
        Check.due("the site of the other van", x.vanAt(1), 0);
        Check.due("the box that is not served", x.box(1), 2);
        Check.due("mended first, as the table is nearer", x.sticks(2, 1), false);
        Check.due("mended second", x.sticks(2, 2), false);
        Check.due("mended third", x.sticks(0, 0), false);
        Check.due("not mended, as no part is left", x.sticks(0, 2), true);
        Check.due("switches left", x.parts(0, TiltRoute.SWITCHES), 0);
        Check.due("coils left", x.parts(0, TiltRoute.COILS), 3);
        Check.due("the need goes on", Check.planOf(x, 0), " 0");
        Check.due("go to the same site", x.go(0), 0);
        Check.due("the site", x.vanAt(0), 40);
        x.stick(1, 0);
        Check.due("the van 1 goes", x.go(1), 2);
        Check.due("its site", x.vanAt(1), 90);
        Check.due("the site of the van 0", x.vanAt(0), 40);
    }

    private static void coilsByRisingNumbers() {
        TiltRoute x = new TiltRoute();
        x.addTable(15, 1);
        x.addBumper(0, 0, 0, 6060, 0);
        x.addBumper(0, 60, 0, 6060, 0);
        x.addBumper(0, 120, 0, 4060, 0);
        x.coin(0);
        x.shoot(0, 130, 0, 0);
        x.shoot(0, 90, 0, 0);
        x.shoot(0, 30, 0, 0);
        x.stick(0, 2);
        x.load(1, TiltRoute.COILS, 2);
        Check.due("the plan", Check.planOf(x, 1), " 0");
        x.go(1);
        Check.due("wear of 0", x.wear(0, 0), 0);
        Check.due("wear of 1", x.wear(0, 1), 0);
        Check.due("wear of 2", x.wear(0, 2), 600);
        Check.due("the switch of 2", x.sticks(0, 2), true);
        x.load(1, TiltRoute.COILS, 1);
        x.load(1, TiltRoute.SWITCHES, 1);
        x.go(1);
        Check.due("wear of 2", x.wear(0, 2), 0);
        Check.due("the switch of 2", x.sticks(0, 2), false);
        Check.due("coils left", x.parts(1, TiltRoute.COILS), 0);
        Check.due("switches left", x.parts(1, TiltRoute.SWITCHES), 0);
        Check.due("the site", x.vanAt(1), 15);
    }

    /** A bumper that is worn, but not broken, takes no coil. */
    private static void wornTakesNoCoil() {
        TiltRoute x = new TiltRoute();
        Routes.addButtons(x, 5, 1, 2);
        Routes.playPresses(x, 0, 0, 0, 1);
        x.stick(0, 0);
        x.load(0, TiltRoute.SWITCHES, 2);
        x.load(0, TiltRoute.COILS, 2);
        x.go(0);
        Check.due("wear", x.wear(0, 0), 2);
        Check.due("coils", x.parts(0, TiltRoute.COILS), 2);
        Check.due("switches", x.parts(0, TiltRoute.SWITCHES), 1);
    }

    public static void main(String[] args) {
        promises23And24();
        promise25Missing();
        promises26And27();
        promise28Wanted();
        promises29And30Arguments();
        shortestWays();
        eachOrderOfSixTables();
        needsService();
        brokenNeedsService();
        promise31Go();
        coilsByRisingNumbers();
        wornTakesNoCoil();
        Check.end();
    }
}
