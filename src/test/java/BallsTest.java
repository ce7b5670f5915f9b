/** Promise 11, shoot, and the term "Balls", sentence by sentence. */
public final class BallsTest {
    private BallsTest() {
    }

    private static int[] bumper(int left, int top, int size, int kick) {
        return Routes.bumper(left, top, size, kick);
    }

    /** The entry of a hit. */
    private static long hit(int number, int ball, int step) {
        return number + (ball << 4) + (step << 8);
    }

    /** The log of one ball on a new table with these bumpers. */
    private static String logOfBall(int x, int right, int down, int[]... bumpers) {
        TiltRoute route = Routes.begun(bumpers);
        route.shoot(0, x, right, down);
        return Check.logOf(route, 0);
    }

    /** Shoots on a new table with these bumpers, and demands the log. */
    private static void dueLog(String told, String log, int x, int right, int down, int[]... bumpers) {
        Check.due(told, logOfBall(x, right, down, bumpers), log);
    }

    private static void arguments() {
        TiltRoute x = Routes.begun(bumper(15, 0, 101, 0));
        x.addTable(0, 1);
        Document.says(11, "`table`: a table");
        Check.raisesFor("shoot at", Check.INDEX, x, Check.outside(0, 1), table -> x.shoot(table, 0, 0, 0));

        Document.says(11, "Throws `IndexOutOfBoundsException` if there is no such table");
        Check.raises("no table, and all else out of range", Check.INDEX, x, () -> x.shoot(2, 160, 31, -31));
        Check.raises("the table -1, from -1", Check.INDEX, x, () -> x.shoot(-1, -1, 0, 0));

        Document.says(11, "`x`: 0 to 159");
        Check.raisesFor("from", Check.ARGUMENT, x, Check.outside(0, 159), from -> x.shoot(0, from, 0, 0));
        x.shoot(0, 0, -30, 30);
        x.shoot(0, 159, 30, -30);
        Check.due("balls left behind those from 0 and from 159", x.ballsLeft(0), 1);

        Document.says(11, "`right`: -30 to 30: its speed to the right");
        Check.raisesFor("to the right", Check.ARGUMENT, x, Check.outside(-30, 30), speed -> x.shoot(0, 0, speed, 0));

        Document.says(11, "`down`: -30 to 30: its speed downwards");
        Check.raisesFor("downwards", Check.ARGUMENT, x, Check.outside(-30, 30), speed -> x.shoot(0, 0, 0, speed));

        Document.says(11, "Throws `IllegalArgumentException` if x, right or down is out of range");
        Check.raises("from 160 without a game", Check.ARGUMENT, x, () -> x.shoot(1, 160, 0, 0));
        Check.raises("from -1 without a game", Check.ARGUMENT, x, () -> x.shoot(1, -1, 0, 0));
        Check.raises("31 to the right without a game", Check.ARGUMENT, x, () -> x.shoot(1, 0, 31, 0));
        Check.raises("-31 downwards without a game", Check.ARGUMENT, x, () -> x.shoot(1, 0, 0, -31));

        Document.says(11, "Throws `IllegalStateException` if no game is on at it");
        Check.raises("a table without a game", Check.STATE, x, () -> x.shoot(1, 0, 0, 0));
        Check.due("the third ball", x.shoot(0, 10, 5, 30), 0);
        Check.raises("a fourth ball", Check.STATE, x, () -> x.shoot(0, 10, 5, 30));
        x.coin(1);
        Check.raises("a fourth ball, as a game is on at another table", Check.STATE, x, () -> x.shoot(0, 0, 0, 0));
        Check.due("a ball there", x.shoot(1, 0, 0, 0), 0);
    }

    private static void startOfABall() {
        Document.says(11, "Shoots a ball from y 0.");
        for (int down = -30; down <= 30; down++) {
            Check.due("a hit with x at y 0, as the speed downwards is " + down,
                    logOfBall(10, 5, down, bumper(15, 0, 101, 0)).startsWith(" 0:0:1:0"), true);
            Check.due("no hit with x at y 1", logOfBall(10, 5, 30, bumper(15, 1, 101, 0)), "");
        }
        TiltRoute x = Routes.begun();
        x.shoot(0, 0, 0, 0);
        Check.due("balls left", x.ballsLeft(0), 2);

        Document.says(11, "It takes steps from 1 on; in each one:");
        TiltRoute z = Routes.begun(bumper(0, 0, 6060, 0));
        Routes.stay(z, 0);
        for (int step = 1; step <= 300; step++) {
            Check.due("with x in step " + step, z.entryAt(0, 2 * step - 2), hit(0, 0, step));
            Check.due("with y in step " + step, z.entryAt(0, 2 * step - 1), hit(0, 0, step));
        }
        Routes.stay(z, 0);
        Check.due("the next ball begins with step 1", z.entryAt(0, 600), hit(0, 1, 1));
    }

    private static void growthOfTheScore() {
        Document.says(11, "Returns by how much the score grows.");
        TiltRoute x = Routes.withBumpers(bumper(0, 0, 6060, 20));
        x.coin(0);
        for (int ball = 0; ball < 3; ball++) {
            Check.due("a ball that hits nothing", x.shoot(0, 100, 0, 0), 0);
        }
        x.setPoints(0, 0, 1000);
        x.setMode(0, 0, 0, 2009, 5000);
        x.coin(0);
        int first = x.shoot(0, 30, 5, 5);
        Check.due("four hits, of which each second one ends the mode", first, 30000);
        Check.due("the score behind the first ball", x.score(1), first);
        Check.due("a ball that hits nothing", x.shoot(0, 159, 0, 30), 0);
        Check.due("the score is kept", x.score(1), first);
        int third = x.shoot(0, 30, 5, 5);
        Check.due("the score behind the third ball", x.score(1), first + third);
    }

    private static void mostSpeed() {
        Document.says(11, "A ball has a place, x and y, and a speed in both directions, at most 30 without sign.");
        dueLog("30 to the left, kicked", " 0:0:1:0 1:0:2:0", 75, -30, 0,
                bumper(0, 0, 6001, 20), bumper(105, 2, 101, 0));
        dueLog("30 to the right, kicked", " 0:0:1:0 1:0:2:0", 60, 30, 0,
                bumper(80, 0, 6001, 20), bumper(30, 2, 101, 0));
        dueLog("30 downwards, kicked", " 0:0:1:0 1:0:2:0", 30, 0, 30, bumper(30, 30, 101, 20), bumper(30, 28, 101, 0));
        dueLog("30 downwards in step 1", " 0:0:1:0", 10, 0, 30, bumper(10, 30, 101, 0));
        dueLog("30 downwards in step 7", " 0:0:7:0", 10, 0, 30, bumper(10, 210, 101, 0));
    }

    private static void speedDownwards() {
        Document.says(11, "The speed downwards grows by 2 (to 30 at most).");
        for (int down = -30; down <= 30; down++) {
            int grown = down + 2 > 30 ? 30 : down + 2;
            int y = grown < 0 ? -grown : grown;
            for (int top = 1; top <= 33; top++) {
                String log = logOfBall(10, 0, down, bumper(10, top, 101, 0));
                Check.due("at " + top + " in step 1, as it was " + down, log.startsWith(" 0:0:1:0"), top == y);
            }
        }
        int y = 0;
        for (int step = 1; step <= 14; step++) {
            y += 2 * step;
            String log = logOfBall(10, 0, 0, bumper(10, y, 101, 0));
            Check.due("a fall from 0 at " + y, log.startsWith(" 0:0:" + step + ":0"), true);
        }
        dueLog("28, which is 30 in step 1 and step 2", " 0:0:2:0", 10, 0, 28, bumper(10, 60, 101, 0));
        dueLog("29, which is 30 in step 1 and step 2", " 0:0:2:0", 10, 0, 29, bumper(10, 60, 101, 0));
        dueLog("27, which is 29 in step 1 and 30 in step 2", " 0:0:2:0", 10, 0, 27, bumper(10, 59, 101, 0));
    }

    private static void speedToTheRight() {
        Document.says(11, "x grows by the speed to the right.");
        for (int right = -30; right <= 30; right++) {
            for (int left = 49; left <= 111; left++) {
                String log = logOfBall(80, right, 30, bumper(left, 0, 101, 0));
                Check.due("at " + left + ", with " + right, log, left == 80 + right ? " 0:0:1:0" : "");
            }
        }
        dueLog("in step 3, ahead of y", " 0:0:3:0", 10, 7, 0, bumper(31, 6, 101, 0));
    }

    private static void walls() {
        Document.says(11, "If it is below 0, it changes its sign, and if it is above 159, it becomes 318 less it; in "
                + "both cases the speed to the right changes its sign.");
        for (int x = 0; x < 160; x++) {
            for (int right = -30; right <= 30; right += 6) {
                int at = x + right;
                int due = at < 0 ? -at : at > 159 ? 318 - at : at;
                dueLog("from " + x + " with " + right, " 0:0:1:0", x, right, 30, bumper(due, 0, 101, 0));
            }
        }
        dueLog("to 160, which is 158", " 0:0:1:0", 150, 10, 30, bumper(158, 0, 101, 0));
        dueLog("to 189, which is 129", " 0:0:1:0", 159, 30, 30, bumper(129, 0, 101, 0));
        dueLog("to -1, which is 1", " 0:0:1:0", 19, -20, 30, bumper(1, 0, 101, 0));
        dueLog("to -30, which is 30", " 0:0:1:0", 0, -30, 30, bumper(30, 0, 101, 0));
        dueLog("behind the right wall, to the left", " 0:0:2:0", 150, 20, 0, bumper(128, 2, 101, 0));
        dueLog("behind the left wall, to the right", " 0:0:2:0", 5, -20, 0, bumper(35, 2, 101, 0));
        dueLog("159 is no wall: the speed is 20 as it bumps", " 0:0:1:0 1:0:2:0", 139, 20, 0,
                bumper(159, 0, 101, 0), bumper(119, 2, 101, 0));
        dueLog("0 is no wall: the speed is -20 as it bumps", " 0:0:1:0 1:0:2:0", 20, -20, 0,
                bumper(0, 0, 101, 0), bumper(40, 2, 101, 0));
        dueLog("159 is no wall: then 179, which is 139", " 0:0:2:0", 139, 20, 0, bumper(139, 2, 101, 0));
        dueLog("0 is no wall: then -20, which is 20", " 0:0:2:0", 20, -20, 0, bumper(20, 2, 101, 0));
        dueLog("from 159 with -30", " 0:0:1:0", 159, -30, 30, bumper(129, 0, 101, 0));
        dueLog("behind both walls", " 0:0:7:0", 20, -30, 0, bumper(128, 42, 101, 0));
    }

    private static void bumpsWithX() {
        Document.says(11, "Then, if the ball is in the box of a bumper, it bumps: x is what it was ahead of this "
                + "step, and the speed to the right changes its sign;");
        dueLog("back to 70, and then to 85", " 0:0:1:0 1:0:2:0", 70, -15, 0, bumper(0, 0, 6001, 0),
                bumper(85, 2, 101, 0));
        dueLog("back to 70, and then to 65", " 0:0:1:0 1:0:2:0", 70, 5, 0,
                bumper(75, 0, 101, 0), bumper(65, 2, 101, 0));
        dueLog("back to 150 behind the wall, and then to 170, which is 148", " 0:0:1:0 1:0:2:0", 150, 20, 0,
                bumper(148, 0, 101, 0), bumper(148, 2, 101, 0));
        dueLog("the place ahead of this step, not that of the shot", " 0:0:2:0 1:0:3:0", 70, -15, 0,
                bumper(40, 2, 101, 0), bumper(70, 6, 101, 0));

        Document.says(11, "it becomes greater, without sign, by the kick of the bumper, but 30 at most;");
        dueLog("-15 with a kick of 10", " 0:0:1:0 1:0:2:0", 70, -15, 0, bumper(0, 0, 6001, 10), bumper(95, 2, 101, 0));
        dueLog("5 with a kick of 10", " 0:0:1:0 1:0:2:0", 70, 5, 0, bumper(75, 0, 101, 10), bumper(55, 2, 101, 0));
        dueLog("-15 with a kick of 15", " 0:0:1:0 1:0:2:0", 70, -15, 0, bumper(0, 0, 6001, 15), bumper(100, 2, 101, 0));
        dueLog("-15 with a kick of 16", " 0:0:1:0 1:0:2:0", 70, -15, 0, bumper(0, 0, 6001, 16), bumper(100, 2, 101, 0));
        dueLog("-15 with a kick of 20", " 0:0:1:0 1:0:2:0", 70, -15, 0, bumper(0, 0, 6001, 20), bumper(100, 2, 101, 0));
        dueLog("-15 with a kick of 14", " 0:0:1:0 1:0:2:0", 70, -15, 0, bumper(0, 0, 6001, 14), bumper(99, 2, 101, 0));
        dueLog("15 with a kick of 20", " 0:0:1:0 1:0:2:0", 60, 15, 0, bumper(75, 0, 101, 20), bumper(30, 2, 101, 0));
        dueLog("1 with a kick of 10", " 0:0:1:0 1:0:2:0", 74, 1, 0, bumper(75, 0, 101, 10), bumper(63, 2, 101, 0));
        dueLog("-1 with a kick of 10", " 0:0:1:0 1:0:2:0", 76, -1, 0, bumper(75, 0, 101, 10), bumper(87, 2, 101, 0));
        dueLog("a kick of 0", " 0:0:1:0 1:0:2:0", 70, -15, 0, bumper(0, 0, 6001, 0), bumper(85, 2, 101, 0));
        dueLog("a kick behind the wall", " 0:0:1:0 1:0:2:0", 150, 20, 0,
                bumper(148, 0, 101, 5), bumper(143, 2, 101, 0));
    }

    private static void noKicks() {
        Document.says(11, "if the speed is 0, or the bumper is broken, there is no kick.");
        dueLog("with x at speed 0", " 0:0:1:0 1:0:2:0", 30, 0, 0, bumper(0, 0, 6001, 7), bumper(30, 6, 101, 20));
        dueLog("with y at speed 0", " 0:0:1:0 0:0:1:0 0:0:2:0 1:0:4:0", 30, 0, -2,
                bumper(30, 0, 102, 5), bumper(30, 12, 101, 20));
        TiltRoute x = Routes.begun(bumper(0, 0, 6060, 10), bumper(85, 2, 101, 20));
        Routes.stay(x, 0);
        Check.due("wear of a bumper that is broken", x.wear(0, 0), 600);
        x.shoot(0, 70, -15, 0);
        Check.due("a bump with x of the broken bumper", x.entryAt(0, 600), hit(0, 1, 1));
        Check.due("no kick, as the next one is at 85", x.entryAt(0, 601), hit(1, 1, 2));
        brokenAtForty();
    }

    /** Hits the bumper {0 to 59, 0 to 4} so many times, each time once, with x. */
    private static TiltRoute worn(int hits) {
        TiltRoute x = Routes.begun(bumper(0, 0, 6005, 20));
        for (int i = 0; i < hits; i++) {
            x.shoot(0, 70, -15, 0);
            if (x.gameAt(0) == TiltRoute.NONE) {
                x.coin(0);
            }
        }
        Check.due("wear behind " + hits + " hits", x.wear(0, 0), hits);
        return x;
    }

    /** The ball is in the box; in step 1 it is kicked up and away, if the bumper is not broken, and otherwise stays. */
    private static void brokenAtForty() {
        TiltRoute x = worn(39);
        int game = x.gameAt(0);
        int before = x.logged(game);
        x.shoot(0, 30, 0, 0);
        Check.due("at wear 39, both bumps of step 1 kick", x.logged(game) - before, 3);
        TiltRoute z = worn(40);
        game = z.gameAt(0);
        before = z.logged(game);
        z.shoot(0, 30, 0, 0);
        Check.due("at wear 40 no bump kicks, but all close", z.logged(game) - before, 600);
        Check.due("wear behind it", z.wear(0, 0), 640);
    }

    private static void severalBoxes() {
        Document.says(11, "If it is in several boxes, it bumps against the lowest bumper alone.");
        dueLog("with x, the lowest number further right", " 0:0:1:0", 10, 20, 30,
                bumper(30, 0, 101, 0), bumper(20, 0, 2001, 0));
        dueLog("with x, the lowest number further left", " 0:0:1:0", 10, 20, 30,
                bumper(20, 0, 2001, 0), bumper(30, 0, 101, 0));
        dueLog("with x, in one of the two", " 1:0:1:0", 10, 15, 30, bumper(30, 0, 101, 0), bumper(20, 0, 2001, 0));
        dueLog("with y, the lowest number", " 0:0:1:0", 30, 0, 18, bumper(30, 20, 101, 0), bumper(20, 20, 2001, 0));
        dueLog("with y, in one of the two", " 1:0:1:0", 30, 0, 18, bumper(29, 20, 101, 0), bumper(20, 20, 2001, 0));
        TiltRoute x = Routes.begun(bumper(40, 0, 101, 0), bumper(20, 0, 2001, 20), bumper(30, 0, 101, 1),
                bumper(30, 0, 101, 20), bumper(10, 2, 101, 0));
        x.shoot(0, 20, 10, 0);
        Check.due("the kick of the lowest one, to -30", Check.logOf(x, 0), " 1:0:1:0 4:0:2:0");
        Check.due("its wear", x.wear(0, 1), 1);
        Check.due("the wear of the second one", x.wear(0, 2), 0);
        Check.due("the wear of the third one", x.wear(0, 3), 0);
    }

    private static void speedOfY() {
        Document.says(11, "y grows by the speed downwards.");
        for (int down = 0; down <= 28; down++) {
            int y = 2 * down + 6;
            if (down + 4 <= 30) {
                String log = logOfBall(10, 0, down, bumper(10, y, 101, 0));
                Check.due("at " + y + " in step 2, with " + down, log.startsWith(" 0:0:2:0"), true);
            }
        }

        Document.says(11, "If it is above 239, the ball is over (behind 4 and 5 of this step).");
        Check.due("239", logOfBall(20, 0, 27, bumper(20, 239, 101, 20)).startsWith(" 0:0:8:0"), true);
        dueLog("240", "", 20, 0, 30, bumper(20, 239, 160, 20));
        dueLog("240 with x at 210", " 0:0:8:0", 10, 10, 30, bumper(85, 205, 1010, 0));
        TiltRoute x = Routes.begun(bumper(0, 205, 3109, 0), bumper(120, 0, 101, 0));
        x.stick(0, 0);
        x.shoot(0, 70, -5, 30);
        Check.due("the wear of a bump in the last step", x.wear(0, 0), 1);
        Check.due("no closing, as it sticks", x.logged(0), 0);
        x.stick(0, 1);
        Routes.wait(x, 0);
        Check.due("closings in step 10, the last one", Check.logOf(x, 0), " 0:1:10:1 1:1:10:2");
        Check.due("the ball is over", x.ballsLeft(0), 1);
        TiltRoute z = Routes.begun(bumper(120, 0, 101, 0));
        z.stick(0, 0);
        z.shoot(0, 0, 0, 18);
        Check.due("closings of a ball that is over in step 9", z.logged(0), 0);
    }

    private static void bumpsWithY() {
        Document.says(11, "Otherwise, if it is below 0, it changes its sign, and so does the speed; then, if the "
                + "ball is in the box of a bumper, it bumps with y and the speed downwards likewise.");
        dueLog("-1, which is 1, and then 4", " 0:0:2:0", 10, 1, -3, bumper(12, 4, 101, 0));
        Check.due("-28, which is 28", logOfBall(10, 0, -30, bumper(10, 28, 101, 0)).startsWith(" 0:0:1:0"), true);
        dueLog("-28, which is 28, and then 58", " 0:0:2:0", 10, 1, -30, bumper(12, 58, 101, 0));
        dueLog("0 is not below 0: then it stays, and falls", " 0:0:2:0 1:0:6:0", 10, 1, 0,
                bumper(12, 6, 101, 0), bumper(16, 6, 101, 0));
        dueLog("back to 12 and then to 6, without a kick", " 0:0:4:0 1:0:5:0", 10, 1, 0,
                bumper(14, 20, 101, 0), bumper(15, 6, 101, 0));
        dueLog("upwards with -6 and a kick of 3, and then to 23", " 0:0:4:0 1:0:5:0 2:0:6:0", 10, 1, 0,
                bumper(14, 20, 101, 0), bumper(15, 6, 101, 3), bumper(16, 23, 101, 0));
        dueLog("upwards from 0, with 18 behind it and a kick of 5", " 0:0:1:0 1:0:2:0", 30, 0, -20,
                bumper(30, 18, 101, 5), bumper(30, 21, 101, 0));
        dueLog("20 with a kick of 20, to 30", " 0:0:1:0 1:0:2:0", 30, 0, 18,
                bumper(30, 20, 101, 20), bumper(30, 28, 101, 0));
        dueLog("1 with a kick of 4", " 0:0:1:0 1:0:2:0", 30, 1, -1, bumper(31, 1, 101, 4), bumper(32, 3, 101, 0));
        dueLog("upwards with -1 and a kick of 4", " 0:0:2:0 1:0:3:0 2:0:4:0", 10, 1, -1,
                bumper(12, 4, 101, 0), bumper(13, 0, 101, 4), bumper(14, 8, 101, 0));
        dueLog("20 with a kick of 9", " 0:0:1:0 1:0:2:0", 30, 0, 18, bumper(30, 20, 101, 9), bumper(30, 27, 101, 0));
        StringBuilder due = new StringBuilder();
        for (int step = 7; step <= 300; step += 14) {
            due.append(" 0:0:").append(step).append(":0");
        }
        dueLog("each 14 steps, without a kick", due.toString(), 45, 0, 0, bumper(45, 50, 110, 0));
        dueLog("a kick of 3, over 0 and down to 81", " 0:0:7:0 1:0:16:0", 45, 0, 0,
                bumper(45, 50, 110, 3), bumper(45, 81, 101, 20));
    }

    private static void hits() {
        Document.says(11, "For each bump of this step, that with x first, the bumper is hit (twice, if it was the "
                + "same one): its wear grows by 1, and if its switch does not stick, the switch is closed.");
        dueLog("that with x first", " 1:0:1:0 0:0:1:0", 10, 5, 0, bumper(10, 2, 101, 20), bumper(15, 0, 101, 0));
        dueLog("that with x first, of the lower number", " 0:0:1:0 1:0:1:0", 10, 5, 0,
                bumper(15, 0, 101, 0), bumper(10, 2, 101, 20));
        TiltRoute x = Routes.begun(bumper(10, 0, 103, 20));
        x.shoot(0, 10, 0, 0);
        Check.due("twice in a step", Check.logOf(x, 0), " 0:0:1:0 0:0:1:0 0:0:2:0");
        Check.due("wear", x.wear(0, 0), 3);
        TiltRoute z = Routes.begun(bumper(15, 0, 101, 0), bumper(10, 2, 101, 20));
        z.stick(0, 0);
        z.shoot(0, 10, 5, 0);
        Check.due("the first of the two sticks, and closes in step 10", Check.logOf(z, 0), " 1:0:1:0 0:0:10:1");
        Check.due("its wear", z.wear(0, 0), 1);
        Check.due("the wear of the other one", z.wear(0, 1), 1);
        TiltRoute both = Routes.begun(bumper(0, 0, 6060, 0));
        both.stick(0, 0);
        Routes.stay(both, 0);
        Check.due("closings of one that sticks, each 10 steps", both.logged(0), 30);
        Check.due("its wear", both.wear(0, 0), 600);
    }

    private static void stickingSwitches() {
        Document.says(11, "If the number of the step can be divided by 10, each switch that sticks is closed, by "
                + "rising numbers.");
        TiltRoute x = Routes.begun(bumper(0, 0, 6060, 0), bumper(100, 0, 101, 0), bumper(120, 0, 101, 0));
        x.stick(0, 2);
        x.stick(0, 0);
        Routes.stay(x, 0);
        StringBuilder due = new StringBuilder();
        for (int step = 10; step <= 300; step += 10) {
            due.append(" 0:0:").append(step).append(":2 2:0:").append(step).append(":1");
        }
        Check.due("closings by rising numbers, not by stickings", Check.logOf(x, 0), due.toString());
        Check.due("wear of one that is not hit", x.wear(0, 2), 0);
        x.shoot(0, 115, 5, 14);
        Check.due("a hit of one that sticks", x.wear(0, 2), 1);
        Check.due("closings of the next ball", Check.logOf(x, 0), due + " 0:1:10:2 2:1:10:1");
        x.shoot(0, 95, 5, 14);
        Check.due("closings of the last ball", Check.logOf(x, 0),
                due + " 0:1:10:2 2:1:10:1 1:2:1:0 0:2:10:2 2:2:10:1");
        TiltRoute z = Routes.begun(bumper(100, 0, 101, 0), bumper(0, 0, 6060, 0));
        Routes.addButtons(z, 0, 1, 2);
        z.stick(1, 1);
        z.stick(0, 0);
        Routes.stay(z, 0);
        Check.due("hits of step 10 come ahead of it", z.entryAt(0, 19), hit(1, 0, 10));
        Check.due("the closing of step 10", z.entryAt(0, 20), hit(0, 0, 10) + (2 << 20));
        Check.due("hits of step 11 come behind it", z.entryAt(0, 21), hit(1, 0, 11));
        Check.due("entries, without those of another table", z.logged(0), 630);
        longestLog();
    }

    /** The longest log: two hits in each step, and seven closings each 10 steps. */
    private static void longestLog() {
        TiltRoute x = Routes.begun(bumper(0, 0, 6060, 0), bumper(100, 0, 101, 0), bumper(100, 0, 101, 0),
                bumper(100, 0, 101, 0), bumper(100, 0, 101, 0), bumper(100, 0, 101, 0), bumper(100, 0, 101, 0),
                bumper(100, 0, 101, 0));
        for (int i = 1; i < 8; i++) {
            x.stick(0, i);
        }
        for (int ball = 1; ball <= 3; ball++) {
            Routes.stay(x, 0);
            Check.due("entries of " + ball + " balls", x.logged(0), ball * 810);
        }
        Check.due("the last entry", x.entryAt(0, 2429), hit(7, 2, 300) + (7 << 20));
    }

    private static void step300() {
        Document.says(11, "Behind the step 300 the ball is over, too.");
        TiltRoute x = Routes.begun(bumper(0, 0, 6060, 20), bumper(100, 0, 101, 0));
        x.stick(0, 1);
        Routes.stay(x, 0);
        Check.due("entries of 300 steps", x.logged(0), 630);
        Check.due("the last hit", x.entryAt(0, 628), hit(0, 0, 300));
        Check.due("the closing of step 300", x.entryAt(0, 629), hit(1, 0, 300) + (1 << 20));
        Check.due("wear of 300 steps", x.wear(0, 0), 600);
        Check.due("balls left", x.ballsLeft(0), 2);
        Routes.stay(x, 0);
        Routes.stay(x, 0);
        Check.due("the game is over", x.gameAt(0), TiltRoute.NONE);
    }

    public static void main(String[] args) {
        arguments();
        startOfABall();
        growthOfTheScore();
        mostSpeed();
        speedDownwards();
        speedToTheRight();
        walls();
        bumpsWithX();
        noKicks();
        severalBoxes();
        speedOfY();
        bumpsWithY();
        hits();
        stickingSwitches();
        step300();
        Document.demandPromises(11, 11);
        Document.demandTerm("Balls", 1, 7);
        Check.end();
    }
}
