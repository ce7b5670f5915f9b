/** Promises 23 to 32 and the term "Vans", sentence by sentence: coin boxes, spare parts, and vans. */
public final class VansTest {
    private VansTest() {
    }

    /** A route with a table with a button at each of these sites, each with a switch that sticks. */
    private static TiltRoute sticking(int... sites) {
        TiltRoute x = new TiltRoute();
        for (int i = 0; i < sites.length; i++) {
            Routes.addButtons(x, sites[i], 1, 1);
            x.stick(i, 0);
        }
        return x;
    }

    /** The same, with the van 1 at a site: a table behind the others, whose switch has been mended. */
    private static TiltRoute stickingFrom(int from, int... sites) {
        TiltRoute x = new TiltRoute();
        for (int site : sites) {
            Routes.addButtons(x, site, 1, 1);
        }
        Routes.addButtons(x, from, 1, 1);
        x.stick(sites.length, 0);
        x.load(1, TiltRoute.SWITCHES, 1);
        x.go(1);
        Check.due("the site from which it goes", x.vanAt(1), from);
        for (int i = 0; i < sites.length; i++) {
            x.stick(i, 0);
        }
        return x;
    }

    /** Plays so many empty games at a table. */
    private static void playGames(TiltRoute x, int table, int games) {
        for (int i = 0; i < games; i++) {
            Routes.playEmpty(x, table);
        }
    }

    private static void duePlan(String told, TiltRoute x, int van, int way, String plan) {
        Check.due(told + ": the way", x.way(van), way);
        Check.due(told + ": the plan", Check.planOf(x, van), plan);
    }

    private static void promise23Rob() {
        TiltRoute x = new TiltRoute();
        Routes.addButtons(x, 0, 9, 1);
        Routes.addButtons(x, 0, 4, 1);
        playGames(x, 0, 23);
        playGames(x, 1, 1);
        Document.says(23, "`table`: a table");
        Check.raisesFor("rob at", Check.INDEX, x, Check.outside(0, 1), table -> x.rob(table, 1));

        Document.says(23, "Throws `IndexOutOfBoundsException` if there is no such table");
        Check.raises("rob 0 at no table", Check.INDEX, x, () -> x.rob(2, 0));
        Check.raises("rob 101 at the table -1", Check.INDEX, x, () -> x.rob(-1, 101));

        Document.says(23, "`coins`: 1 to 100");
        Check.raisesFor("rob", Check.ARGUMENT, x, Check.outside(1, 100), coins -> x.rob(0, coins));
        Check.due("rob 100", x.rob(0, 100), 107);
        Check.due("rob 1", x.rob(0, 1), 106);

        Document.says(23, "Throws `IllegalArgumentException` if coins is out of range");
        Check.raises("rob 101 of 4", Check.ARGUMENT, x, () -> x.rob(1, 101));
        Check.raises("rob 0 of 4", Check.ARGUMENT, x, () -> x.rob(1, 0));
        Check.raises("rob 101 of 106", Check.ARGUMENT, x, () -> x.rob(0, 101));

        Document.says(23, "Returns how many are left in it.");
        Check.due("rob 99 of 106", x.rob(0, 99), 7);
        Check.due("rob 7 of 7", x.rob(0, 7), 0);
        Check.due("rob 3 of 4", x.rob(1, 3), 1);

        Document.says(23, "Throws `IllegalStateException` if there are fewer");
        Check.raises("rob 1 of 0", Check.STATE, x, () -> x.rob(0, 1));
        Check.raises("rob 100 of 0", Check.STATE, x, () -> x.rob(0, 100));
        Check.raises("rob 2 of 1", Check.STATE, x, () -> x.rob(1, 2));
        Check.due("rob 1 of 1", x.rob(1, 1), 0);
        Check.raises("rob 1 of 0 then", Check.STATE, x, () -> x.rob(1, 1));

        Document.says(23, "Takes coins out of the box of a table, unseen.");
        x.coin(1);
        Check.due("rob in a game", x.rob(1, 2), 2);
        Check.due("the box", x.box(1), 2);
        Check.due("missing, as nobody saw it", x.missing(1), 0);
        Check.due("the box of the other table", x.box(0), 0);
        Routes.finish(x, 1);
        x.stick(1, 0);
        x.go(0);
        Check.due("missing, as the box was emptied", x.missing(1), 4 + 2);
        Check.due("missing of the other table", x.missing(0), 0);
    }

    private static void promise24Box() {
        TiltRoute x = new TiltRoute();
        Routes.addButtons(x, 0, 9, 1);
        Routes.addButtons(x, 0, 4, 1);
        Document.says(24, "`table`: a table");
        Check.raisesFor("the box of", Check.INDEX, x, Check.outside(0, 1), x::box);

        Document.says(24, "Throws `IndexOutOfBoundsException` if there is no such table");
        TiltRoute empty = new TiltRoute();
        Check.raises("the box without tables", Check.INDEX, empty, () -> empty.box(0));

        Document.says(24, "Returns how many coins are in the box of a table.");
        Check.due("at first", x.box(0), 0);
        x.coin(0);
        Check.due("in a game", x.box(0), 9);
        Check.due("of the other table", x.box(1), 0);
        Routes.finish(x, 0);
        playGames(x, 0, 2);
        Check.due("behind three games", x.box(0), 27);
        x.rob(0, 3);
        Check.due("behind a robbery", x.box(0), 24);
        x.go(0);
        Check.due("behind the van", x.box(0), 0);
        x.coin(0);
        Check.due("for the next game", x.box(0), 9);
    }

    private static void promise25Missing() {
        TiltRoute x = new TiltRoute();
        Routes.addButtons(x, 10, 9, 1);
        Routes.addButtons(x, 20, 5, 1);
        Document.says(25, "`table`: a table");
        Check.raisesFor("missing of", Check.INDEX, x, Check.outside(0, 1), x::missing);

        Document.says(25, "Throws `IndexOutOfBoundsException` if there is no such table");
        TiltRoute empty = new TiltRoute();
        Check.raises("missing without tables", Check.INDEX, empty, () -> empty.missing(0));

        Document.says(25, "Returns how many coins were missing of a table, so far as its box was emptied.");
        Check.due("at first", x.missing(0), 0);
        playGames(x, 1, 1);
        x.rob(1, 2);
        playGames(x, 0, 3);
        x.rob(0, 3);
        x.rob(0, 1);
        Check.due("ahead of the emptying", x.missing(0), 0);
        x.go(0);
        Check.due("behind it", x.missing(0), 4);
        Check.due("of the table that was not served", x.missing(1), 0);
        playGames(x, 0, 1);
        x.rob(0, 9);
        Check.due("ahead of the next emptying", x.missing(0), 4);
        x.stick(0, 0);
        x.go(1);
        Check.due("behind it", x.missing(0), 13);
    }

    private static void promise26Load() {
        TiltRoute x = new TiltRoute();
        Document.says(26, "`van`: 0 or 1");
        Check.raisesFor("load of", Check.INDEX, x, Check.outside(0, 1), van -> x.load(van, 0, 1));

        Document.says(26, "Throws `IndexOutOfBoundsException` if there is no such van");
        Check.raises("no van and the kind 2", Check.INDEX, x, () -> x.load(2, 2, 1));
        Check.raises("the van -1 and no parts", Check.INDEX, x, () -> x.load(-1, 0, 0));

        Document.says(26, "`kind`: SWITCHES or COILS");
        Check.raisesFor("load kind", Check.ARGUMENT, x, Check.outside(0, 1), kind -> x.load(0, kind, 1));

        Document.says(26, "`count`: 1 to 20");
        int[] counts = Check.outside(1, 20);
        Check.raisesFor("load", Check.ARGUMENT, x, counts, count -> x.load(1, TiltRoute.COILS, count));
        Check.raisesFor("load", Check.ARGUMENT, x, counts, count -> x.load(0, TiltRoute.SWITCHES, count));
        Check.due("load 20", x.load(0, TiltRoute.SWITCHES, 20), 20);
        Check.due("load 1", x.load(0, TiltRoute.COILS, 1), 1);

        Document.says(26, "Throws `IllegalArgumentException` if kind or count is out of range");
        Check.raises("21 more than 20", Check.ARGUMENT, x, () -> x.load(0, TiltRoute.SWITCHES, 21));
        Check.raises("0 more than 20", Check.ARGUMENT, x, () -> x.load(0, TiltRoute.SWITCHES, 0));
        Check.raises("20 of the kind 2", Check.ARGUMENT, x, () -> x.load(0, 2, 20));
        Check.raises("20 of the kind -1", Check.ARGUMENT, x, () -> x.load(0, -1, 20));

        Document.says(26, "Returns how many of them it has then.");
        Check.due("7 coils", x.load(0, TiltRoute.COILS, 7), 8);
        Check.due("11 coils", x.load(0, TiltRoute.COILS, 11), 19);
        Check.due("3 coils of the other van", x.load(1, TiltRoute.COILS, 3), 3);

        Document.says(26, "Throws `IllegalStateException` if it would have more than 20");
        Check.raises("1 more than 20", Check.STATE, x, () -> x.load(0, TiltRoute.SWITCHES, 1));
        Check.raises("20 more than 20", Check.STATE, x, () -> x.load(0, TiltRoute.SWITCHES, 20));
        Check.raises("2 more than 19", Check.STATE, x, () -> x.load(0, TiltRoute.COILS, 2));
        Check.due("1 more than 19", x.load(0, TiltRoute.COILS, 1), 20);
        Check.raises("20 more than 3", Check.STATE, x, () -> x.load(1, TiltRoute.COILS, 20));
        Check.raises("18 more than 3", Check.STATE, x, () -> x.load(1, TiltRoute.COILS, 18));
        Check.due("17 more than 3", x.load(1, TiltRoute.COILS, 17), 20);

        Document.says(26, "Loads spare parts into a van.");
        Check.due("switches of the van 0", x.parts(0, TiltRoute.SWITCHES), 20);
        Check.due("coils of the van 0", x.parts(0, TiltRoute.COILS), 20);
        Check.due("switches of the van 1", x.parts(1, TiltRoute.SWITCHES), 0);
        Check.due("coils of the van 1", x.parts(1, TiltRoute.COILS), 20);
    }

    private static void promise27Parts() {
        TiltRoute x = new TiltRoute();
        Document.says(27, "`van`: 0 or 1");
        Check.raisesFor("parts of", Check.INDEX, x, Check.outside(0, 1), van -> x.parts(van, 0));

        Document.says(27, "Throws `IndexOutOfBoundsException` if there is no such van");
        Check.raises("no van and the kind 2", Check.INDEX, x, () -> x.parts(2, 2));
        Check.raises("the van -1 and the kind -1", Check.INDEX, x, () -> x.parts(-1, -1));

        Document.says(27, "`kind`: SWITCHES or COILS");
        Check.due("switches", x.parts(0, TiltRoute.SWITCHES), 0);
        Check.due("coils", x.parts(0, TiltRoute.COILS), 0);

        Document.says(27, "Throws `IllegalArgumentException` if kind is out of range");
        Check.raisesFor("parts of the van 0 and the kind", Check.ARGUMENT, x, Check.outside(0, 1), k -> x.parts(0, k));
        Check.raisesFor("parts of the van 1 and the kind", Check.ARGUMENT, x, Check.outside(0, 1), k -> x.parts(1, k));

        Document.says(27, "Returns how many spare parts of a kind a van has.");
        x.load(0, TiltRoute.SWITCHES, 2);
        x.load(0, TiltRoute.COILS, 3);
        x.load(1, TiltRoute.SWITCHES, 5);
        x.load(1, TiltRoute.COILS, 7);
        Check.due("switches of the van 0", x.parts(0, TiltRoute.SWITCHES), 2);
        Check.due("coils of the van 0", x.parts(0, TiltRoute.COILS), 3);
        Check.due("switches of the van 1", x.parts(1, TiltRoute.SWITCHES), 5);
        Check.due("coils of the van 1", x.parts(1, TiltRoute.COILS), 7);
        Routes.addButtons(x, 0, 1, 2);
        x.stick(0, 0);
        x.stick(0, 1);
        x.go(0);
        Check.due("switches behind two mendings", x.parts(0, TiltRoute.SWITCHES), 0);
        Check.due("coils behind them", x.parts(0, TiltRoute.COILS), 3);
    }

    private static void promise28Wanted() {
        TiltRoute x = new TiltRoute();
        Document.says(28, "`kind`: SWITCHES or COILS");
        Check.due("switches without tables", x.wanted(TiltRoute.SWITCHES), 0);
        Check.due("coils without tables", x.wanted(TiltRoute.COILS), 0);

        Document.says(28, "Throws `IllegalArgumentException` if kind is out of range");
        Check.raisesFor("wanted of the kind", Check.ARGUMENT, x, Check.outside(0, 1), x::wanted);

        Document.says(28, "Returns how many spare parts of a kind are wanted: switches that stick, or bumpers that "
                + "are broken, of all tables, less those parts that both vans have.");
        Routes.addButtons(x, 0, 1, 3);
        x.addTable(0, 1);
        x.addBumper(1, 0, 0, 6060, 0);
        x.stick(0, 0);
        x.stick(0, 2);
        x.stick(1, 0);
        Check.due("switches of all tables", x.wanted(TiltRoute.SWITCHES), 3);
        Check.due("no coils", x.wanted(TiltRoute.COILS), 0);
        x.coin(1);
        Routes.stay(x, 1);
        Check.due("coils, of a table with a game", x.wanted(TiltRoute.COILS), 1);
        Check.due("switches, of a table with a game too", x.wanted(TiltRoute.SWITCHES), 3);
        x.load(0, TiltRoute.SWITCHES, 1);
        Check.due("less one of the van 0", x.wanted(TiltRoute.SWITCHES), 2);
        x.load(1, TiltRoute.SWITCHES, 1);
        Check.due("less one of each van", x.wanted(TiltRoute.SWITCHES), 1);
        Check.due("coils, as switches are there", x.wanted(TiltRoute.COILS), 1);
        x.go(0);
        Check.due("as one is mended", x.wanted(TiltRoute.SWITCHES), 1);

        Document.says(28, "Returns how many, 0 at least.");
        x.load(1, TiltRoute.COILS, 1);
        Check.due("as many coils as are broken", x.wanted(TiltRoute.COILS), 0);
        x.load(1, TiltRoute.COILS, 1);
        Check.due("more coils than are broken", x.wanted(TiltRoute.COILS), 0);
        x.load(0, TiltRoute.SWITCHES, 20);
        x.load(1, TiltRoute.SWITCHES, 19);
        Check.due("40 switches for two", x.wanted(TiltRoute.SWITCHES), 0);
    }

    private static void vans() {
        Document.says(26, "There are the vans 0 and 1; a van is at a site, 0 at first, and has spare switches and "
                + "spare coils, 0 to 20 of each, none at first.");
        TiltRoute x = new TiltRoute();
        for (int van = 0; van < 2; van++) {
            int asked = van;
            Check.due("the site at first", x.vanAt(van), 0);
            for (int kind = 0; kind < 2; kind++) {
                int kept = kind;
                Check.due("parts at first", x.parts(van, kind), 0);
                Check.due("20 parts", x.load(van, kind, 20), 20);
                Check.raises("21 parts", Check.STATE, x, () -> x.load(asked, kept, 1));
            }
        }
        Check.raises("the van 2", Check.INDEX, x, () -> x.vanAt(2));
        Check.raises("the van -1", Check.INDEX, x, () -> x.vanAt(-1));
    }

    private static void needsService() {
        Document.says(29, "A table needs service if no game is on at it, and its box has 20 coins or more, a switch "
                + "of it sticks, or a bumper is broken.");
        TiltRoute x = new TiltRoute();
        for (int i = 0; i < 4; i++) {
            Routes.addButtons(x, 10 * i + 10, 4, 2);
        }
        duePlan("no need", x, 0, 0, "");
        for (int i = 0; i < 5; i++) {
            duePlan(4 * i + " coins", x, 0, 0, "");
            x.coin(1);
            if (i < 4) {
                Routes.finish(x, 1);
            }
        }
        duePlan("20 coins in a game", x, 0, 0, "");
        Routes.miss(x, 1);
        Routes.miss(x, 1);
        duePlan("20 coins with a ball left", x, 0, 0, "");
        Routes.miss(x, 1);
        duePlan("20 coins", x, 0, 20, " 1");
        x.rob(1, 1);
        duePlan("19 coins", x, 0, 0, "");
        x.stick(3, 1);
        duePlan("a switch that sticks", x, 0, 40, " 3");
        x.coin(3);
        duePlan("a switch that sticks, in a game", x, 0, 0, "");
        x.stick(2, 0);
        duePlan("a game at another table", x, 0, 30, " 2");
        Routes.playEmpty(x, 1);
        duePlan("23 coins, and a switch that sticks", x, 1, 30, " 1 2");
        x.go(1);
        Check.due("the box of the table with a game", x.box(3), 4);
        Check.due("its switch", x.sticks(3, 1), true);
        brokenNeedsService();
    }

    /** 40 hits break the bumper; the 40th one is the first ball of the game 13. */
    private static void brokenNeedsService() {
        TiltRoute x = new TiltRoute();
        Routes.addButtons(x, 70, 1, 2);
        for (int i = 0; i < 13; i++) {
            Routes.playPresses(x, 0, 1, 1, 1);
        }
        duePlan("wear 39", x, 0, 0, "");
        x.coin(0);
        Routes.press(x, 0, 1);
        Check.due("wear", x.wear(0, 1), 40);
        duePlan("wear 40 in a game", x, 0, 0, "");
        Routes.miss(x, 0);
        Routes.miss(x, 0);
        duePlan("wear 40", x, 0, 70, " 0");
        x.go(0);
        duePlan("wear 40, as the van had no coil", x, 1, 70, " 0");
        x.load(0, TiltRoute.COILS, 1);
        x.go(0);
        duePlan("wear 0", x, 1, 0, "");
    }

    private static void plans() {
        Document.says(30, "The plan of a van is the shortest way from its site to the sites of all tables that need "
                + "service, each table once, of several ways as short the one whose first table is the lowest, of "
                + "these the one whose second table is, and so on; the length of a way is that of all its parts, the "
                + "differences of sites without sign.");
        duePlan("rising sites", sticking(10, 20, 30), 0, 30, " 0 1 2");
        duePlan("falling sites", sticking(30, 20, 10), 1, 30, " 2 1 0");
        duePlan("the same sites", sticking(5, 5, 5), 0, 5, " 0 1 2");
        duePlan("the site 0", sticking(0, 0), 0, 0, " 0 1");
        duePlan("six tables at a site", sticking(9, 9, 9, 9, 9, 9), 0, 9, " 0 1 2 3 4 5");
        duePlan("six tables at two sites", sticking(9, 5, 9, 5, 9, 5), 0, 9, " 1 3 5 0 2 4");
        duePlan("six tables", sticking(100, 7, 50, 50, 99, 3), 0, 100, " 5 1 2 3 4 0");
        duePlan("a table", sticking(42), 1, 42, " 0");
        duePlan("the nearer end first", stickingFrom(50, 30, 60), 1, 40, " 1 0");
        duePlan("the nearer end first, to the left", stickingFrom(50, 65, 40), 1, 35, " 1 0");
        duePlan("not the nearest table first", stickingFrom(50, 49, 20, 52), 1, 34, " 2 0 1");
        duePlan("both ends as near", stickingFrom(50, 60, 40), 1, 30, " 0 1");
        duePlan("both ends as near, the other first", stickingFrom(50, 40, 60), 1, 30, " 0 1");
        duePlan("the first table of two ways", stickingFrom(50, 60, 60, 40), 1, 30, " 0 1 2");
        duePlan("the first one, then those on the way", stickingFrom(50, 60, 40, 45), 1, 30, " 0 2 1");
        duePlan("the first one is on the way", stickingFrom(50, 55, 60, 40), 1, 30, " 0 1 2");
        duePlan("the second table of two ways", stickingFrom(50, 50, 60, 40), 1, 30, " 0 1 2");
        duePlan("the second table of two ways, on the way", stickingFrom(50, 50, 60, 45, 40), 1, 30, " 0 1 2 3");
        duePlan("the third table of two ways", stickingFrom(50, 50, 50, 40, 60), 1, 30, " 0 1 2 3");
        duePlan("the last tables", stickingFrom(50, 60, 40, 40), 1, 30, " 0 1 2");
        duePlan("the lowest first, though it is passed twice", stickingFrom(50, 45, 60, 40), 1, 30, " 0 2 1");
        duePlan("the van of the other site", stickingFrom(50, 60, 40), 0, 60, " 1 0");
        duePlan("five tables", stickingFrom(50, 90, 20, 50, 60, 40), 1, 100, " 1 4 2 3 0");
        eachOrderOfSixTables();
    }

    /** With six sites on one side of the van, there is one shortest way, whatever the numbers of the tables are. */
    private static void eachOrderOfSixTables() {
        int orders = 0;
        for (int code = 0; code < 6 * 6 * 6 * 6 * 6 * 6; code++) {
            int[] sites = new int[6];
            int[] tableAt = new int[6];
            int seen = 0;
            for (int table = 0, rest = code; table < 6; table++, rest /= 6) {
                sites[table] = 10 * (rest % 6) + 10;
                tableAt[rest % 6] = table;
                seen |= 1 << rest % 6;
            }
            if (seen == 63) {
                StringBuilder plan = new StringBuilder();
                for (int table : tableAt) {
                    plan.append(' ').append(table);
                }
                duePlan("an order of six tables", sticking(sites), 0, 60, plan.toString());
                orders++;
            }
        }
        Check.due("orders of six tables", orders, 720);
    }

    private static void promise29Way() {
        TiltRoute x = sticking(10, 20);
        TiltRoute none = new TiltRoute();
        Document.says(29, "`van`: 0 or 1");
        Check.raisesFor("the way of", Check.INDEX, x, Check.outside(0, 1), x::way);

        Document.says(29, "Throws `IndexOutOfBoundsException` if there is no such van");
        Check.raises("the way of the van 2 without tables", Check.INDEX, none, () -> none.way(2));

        Document.says(29, "Returns the length of the plan of a van.");
        Check.due("of the van 0", x.way(0), 20);
        x.load(0, TiltRoute.SWITCHES, 1);
        x.go(0);
        Check.due("of the van 0, from the site 20", x.way(0), 0);
        Check.due("of the van 1, from the site 0", x.way(1), 20);
        x.stick(0, 0);
        Check.due("of the van 0, back to the site 10", x.way(0), 10);
        Check.due("the longest way", sticking(100).way(1), 100);

        Document.says(29, "Returns the length; 0 if no table needs service.");
        Check.due("without tables", none.way(0), 0);
        Routes.addButtons(none, 50, 1, 1);
        Check.due("with a table that needs none", none.way(1), 0);
        none.stick(0, 0);
        none.coin(0);
        Check.due("with a game alone", none.way(1), 0);
        Routes.finish(none, 0);
        Check.due("behind the game", none.way(1), 50);
        none.load(1, TiltRoute.SWITCHES, 1);
        none.go(1);
        Check.due("behind the service", none.way(1), 0);
        Check.due("behind the service, from the site 0", none.way(0), 0);
    }

    private static void promise30Planned() {
        TiltRoute x = sticking(30, 20, 10);
        TiltRoute none = Routes.withButtons(1);
        Document.says(30, "`van`: 0 or 1");
        Check.raisesFor("the plan of", Check.INDEX, x, Check.outside(0, 1), van -> x.planned(van, 0));

        Document.says(30, "`place`: 0 for the first one");
        Check.due("the first table", x.planned(0, 0), 2);

        Document.says(30, "Returns a table of the plan of a van.");
        Check.due("the second table", x.planned(0, 1), 1);

        Document.says(30, "Returns the table.");
        Check.due("the last table", x.planned(1, 2), 0);

        Document.says(30, "Throws `IndexOutOfBoundsException` if there is no such van, or its plan has not so many, "
                + "or place is below 0");
        Check.raisesFor("the place", Check.INDEX, x, Check.outside(0, 2), place -> x.planned(0, place));
        Check.raises("the place 0 of an empty plan", Check.INDEX, none, () -> none.planned(1, 0));
        Check.raises("the place -1 of an empty plan", Check.INDEX, none, () -> none.planned(0, -1));
        TiltRoute six = sticking(1, 2, 3, 4, 5, 6);
        Check.due("the place 5 of six", six.planned(0, 5), 5);
        Check.raises("the place 6 of six", Check.INDEX, six, () -> six.planned(0, 6));
        six.coin(3);
        Check.due("the place 4 of five", six.planned(0, 4), 5);
        Check.raises("the place 5 of five", Check.INDEX, six, () -> six.planned(0, 5));
    }

    private static void promise31Arguments() {
        TiltRoute x = sticking(10);
        TiltRoute none = new TiltRoute();
        Document.says(31, "`van`: 0 or 1");
        Check.raisesFor("go of", Check.INDEX, x, Check.outside(0, 1), x::go);

        Document.says(31, "Throws `IndexOutOfBoundsException` if there is no such van");
        Check.raises("the van 2 without need", Check.INDEX, none, () -> none.go(2));
        Check.raises("the van -1 without need", Check.INDEX, none, () -> none.go(-1));

        Document.says(31, "Throws `IllegalStateException` if no table needs service");
        Check.raises("go without tables", Check.STATE, none, () -> none.go(0));
        Routes.addButtons(none, 10, 9, 1);
        Check.raises("go without need", Check.STATE, none, () -> none.go(1));
        playGames(none, 0, 2);
        Check.raises("go with 18 coins", Check.STATE, none, () -> none.go(1));
        none.coin(0);
        none.stick(0, 0);
        Check.raises("go with a game alone", Check.STATE, none, () -> none.go(0));
        Routes.finish(none, 0);
        none.load(0, TiltRoute.SWITCHES, 1);
        Check.due("go", none.go(0), 27);
        Check.raises("go again", Check.STATE, none, () -> none.go(0));

        Document.says(31, "Returns how many coins it takes.");
        Check.due("no coins", x.go(0), 0);
        Check.due("no coins again, as the switch sticks", x.go(0), 0);
        playGames(x, 0, 3);
        Check.due("three coins", x.go(1), 3);
    }

    private static void promise31Go() {
        TiltRoute x = new TiltRoute();
        Routes.addButtons(x, 40, 9, 3);
        Routes.addButtons(x, 90, 2, 3);
        Routes.addButtons(x, 20, 7, 3);
        for (int table = 0; table < 3; table++) {
            Routes.playEmpty(x, table);
        }
        x.stick(0, 2);
        x.stick(0, 0);
        x.stick(2, 2);
        x.stick(2, 1);
        x.load(0, TiltRoute.SWITCHES, 3);
        x.load(0, TiltRoute.COILS, 3);
        Document.says(31, "Lets a van go.");
        Check.due("the coins of the tables that it serves", x.go(0), 16);
        Check.due("the box that is not served", x.box(1), 2);
        Check.due("the boxes that are served", x.box(0) + x.box(2), 0);

        Document.says(31, "When a van goes, it goes by its plan.");
        Check.due("mended first, as the table is nearer", x.sticks(2, 1), false);
        Check.due("mended second", x.sticks(2, 2), false);
        Check.due("mended third", x.sticks(0, 0), false);
        Check.due("not mended, as no part is left", x.sticks(0, 2), true);
        Check.due("switches left", x.parts(0, TiltRoute.SWITCHES), 0);

        Document.says(31, "It stays at the last site.");
        Check.due("the site", x.vanAt(0), 40);
        Check.due("the site of the other van", x.vanAt(1), 0);
        Check.due("the need goes on", Check.planOf(x, 0), " 0");
        x.go(0);
        Check.due("the same site", x.vanAt(0), 40);
        x.load(0, TiltRoute.SWITCHES, 1);
        x.go(0);
        x.stick(2, 0);
        x.go(0);
        Check.due("a lower site", x.vanAt(0), 20);
        x.stick(1, 0);
        x.go(1);
        Check.due("the van 1, at its last site", x.vanAt(1), 90);
        Check.due("the site of the van 0", x.vanAt(0), 20);
    }

    private static void emptiedBoxes() {
        Document.says(31, "At each table it takes what is in the box; what that is less than the plays of the table "
                + "since the box was emptied last have brought is missing, and is added up.");
        TiltRoute x = new TiltRoute();
        Routes.addButtons(x, 10, 9, 1);
        playGames(x, 0, 3);
        x.rob(0, 4);
        Check.due("23 of 27", x.go(0), 23);
        Check.due("4 are missing", x.missing(0), 4);
        Check.due("the box", x.box(0), 0);
        x.stick(0, 0);
        Check.due("nothing, as there were no plays", x.go(1), 0);
        Check.due("missing as before", x.missing(0), 4);
        playGames(x, 0, 2);
        x.rob(0, 10);
        Check.due("8 of 18", x.go(0), 8);
        Check.due("10 more are missing", x.missing(0), 14);
        playGames(x, 0, 1);
        Check.due("9 of 9", x.go(1), 9);
        Check.due("no more are missing", x.missing(0), 14);
        playGames(x, 0, 1);
        x.rob(0, 9);
        Check.due("0 of 9", x.go(1), 0);
        Check.due("9 more are missing", x.missing(0), 23);
        playGames(x, 0, 1);
        x.rob(0, 1);
        Check.due("8 of 9", x.go(0), 8);
        Check.due("1 more is missing", x.missing(0), 24);
    }

    private static void mending() {
        Document.says(31, "Then, by rising numbers, each switch that sticks is mended, as long as the van has a "
                + "spare switch, which it takes; then, likewise, each bumper that is broken, with a spare coil: its "
                + "wear is 0 then.");
        for (int parts = 1; parts <= 8; parts++) {
            TiltRoute x = Routes.withButtons(8);
            for (int i = 7; i >= 0; i--) {
                x.stick(0, i);
            }
            x.load(1, TiltRoute.SWITCHES, parts);
            x.load(0, TiltRoute.SWITCHES, 20);
            x.go(1);
            for (int i = 0; i < 8; i++) {
                Check.due("the switch " + i + " sticks behind " + parts + " parts", x.sticks(0, i), i >= parts);
            }
            Check.due("switches left", x.parts(1, TiltRoute.SWITCHES), 0);
            Check.due("switches of the other van", x.parts(0, TiltRoute.SWITCHES), 20);
        }
        coilsByRisingNumbers();
        wornTakesNoCoil();
        switchesAndCoilsOfABumper();
    }

    private static void coilsByRisingNumbers() {
        TiltRoute x = Routes.withBumpers(Routes.bumper(0, 0, 6060, 0), Routes.bumper(60, 0, 6060, 0),
                Routes.bumper(120, 0, 4060, 0));
        x.coin(0);
        x.shoot(0, 130, 0, 0);
        x.shoot(0, 90, 0, 0);
        x.shoot(0, 30, 0, 0);
        x.stick(0, 2);
        x.load(1, TiltRoute.COILS, 2);
        x.go(1);
        Check.due("the wear of 0", x.wear(0, 0), 0);
        Check.due("the wear of 1", x.wear(0, 1), 0);
        Check.due("the wear of 2, as no coil is left", x.wear(0, 2), 600);
        Check.due("the switch of 2 takes no coil", x.sticks(0, 2), true);
        x.load(1, TiltRoute.COILS, 1);
        x.load(1, TiltRoute.SWITCHES, 1);
        x.go(1);
        Check.due("the wear of 2", x.wear(0, 2), 0);
        Check.due("the switch of 2", x.sticks(0, 2), false);
        Check.due("coils left", x.parts(1, TiltRoute.COILS), 0);
        Check.due("switches left", x.parts(1, TiltRoute.SWITCHES), 0);
    }

    /** A bumper that is worn, but not broken, takes no coil, and a switch that does not stick takes no switch. */
    private static void wornTakesNoCoil() {
        TiltRoute x = Routes.withButtons(3);
        for (int i = 0; i < 13; i++) {
            Routes.playPresses(x, 0, 0, 0, 0);
        }
        for (int i = 0; i < 14; i++) {
            Routes.playPresses(x, 0, 1, 1, i == 13 ? 2 : 1);
        }
        x.stick(0, 2);
        x.load(0, TiltRoute.SWITCHES, 3);
        x.load(0, TiltRoute.COILS, 3);
        x.go(0);
        Check.due("a wear of 39 stays", x.wear(0, 0), 39);
        Check.due("a wear of 41 goes", x.wear(0, 1), 0);
        Check.due("a wear of 1 stays", x.wear(0, 2), 1);
        Check.due("coils", x.parts(0, TiltRoute.COILS), 2);
        Check.due("switches", x.parts(0, TiltRoute.SWITCHES), 2);
    }

    /** A bumper behind the mending kicks again, and its switch is closed by hits again. */
    private static void switchesAndCoilsOfABumper() {
        TiltRoute x = Routes.withBumpers(Routes.bumper(0, 0, 6005, 20));
        x.setPoints(0, 0, 1);
        x.stick(0, 0);
        x.coin(0);
        for (int ball = 0; ball < 3; ball++) {
            x.shoot(0, 30, 0, 0);
        }
        for (int i = 0; i < 13; i++) {
            x.coin(0);
            for (int ball = 0; ball < 3; ball++) {
                x.shoot(0, 70, -15, 0);
            }
        }
        Check.due("a bumper that is broken", x.wanted(TiltRoute.COILS), 1);
        x.load(0, TiltRoute.SWITCHES, 1);
        x.load(0, TiltRoute.COILS, 1);
        x.go(0);
        Check.due("the wear", x.wear(0, 0), 0);
        x.coin(0);
        Check.due("a hit with x, that with y, and one more, with x", x.shoot(0, 30, 0, 0), 3);
        Check.due("the wear behind it", x.wear(0, 0), 3);
    }

    private static void promise32VanAt() {
        TiltRoute x = sticking(10, 100);
        Document.says(32, "`van`: 0 or 1");
        Check.raisesFor("the site of", Check.INDEX, x, Check.outside(0, 1), x::vanAt);

        Document.says(32, "Throws `IndexOutOfBoundsException` if there is no such van");
        TiltRoute none = new TiltRoute();
        Check.raises("the site of the van 2 without tables", Check.INDEX, none, () -> none.vanAt(2));

        Document.says(32, "Returns the site where a van is.");
        Check.due("at first", x.vanAt(0), 0);
        x.load(0, TiltRoute.SWITCHES, 1);
        x.go(0);
        Check.due("behind its way", x.vanAt(0), 100);
        Check.due("of the other van", x.vanAt(1), 0);
        x.load(1, TiltRoute.SWITCHES, 1);
        x.go(1);
        x.stick(0, 0);
        x.load(1, TiltRoute.SWITCHES, 1);
        x.go(1);
        Check.due("of the van 1, back at 10", x.vanAt(1), 10);
        Check.raises("go without need", Check.STATE, x, () -> x.go(0));
        Check.due("behind a refused call", x.vanAt(0), 100);
    }

    public static void main(String[] args) {
        promise23Rob();
        promise24Box();
        promise25Missing();
        promise26Load();
        promise27Parts();
        promise28Wanted();
        vans();
        needsService();
        plans();
        promise29Way();
        promise30Planned();
        promise31Arguments();
        promise31Go();
        emptiedBoxes();
        mending();
        promise32VanAt();
        Document.demandPromises(23, 32);
        Document.demandTerm("Vans", 1, 2);
        Check.end();
    }
}
