/** Promise 11, shoot, with the steps of a ball as the term "Balls" tells them. */
public final class BallsTest {
    private static final int LOW = Integer.MIN_VALUE;
    private static final int HIGH = Integer.MAX_VALUE;

    private BallsTest() {
    }

    /** A route with a table for 1 coin, with the bumpers {left, top, size, kick}, on which a game is begun. */
    private static TiltRoute begun(int[]... bumpers) {
        TiltRoute x = new TiltRoute();
        x.addTable(0, 1);
        for (int[] b : bumpers) {
            x.addBumper(0, b[0], b[1], b[2], b[3]);
        }
        x.coin(0);
        return x;
    }

    private static int[] bumper(int left, int top, int size, int kick) {
        return new int[] {left, top, size, kick};
    }

    /** Shoots on a new table with these bumpers, and demands the log. */
    private static void dueLog(String told, String log, int x, int right, int down, int[]... bumpers) {
        TiltRoute route = begun(bumpers);
        route.shoot(0, x, right, down);
        Check.due(told, Check.logOf(route, 0), log);
    }

    private static void arguments() {
        TiltRoute x = begun(bumper(15, 0, 101, 0));
        for (int table : new int[] {-1, 1, LOW, HIGH}) {
            Check.raises("shoot at " + table, Check.INDEX, x, () -> x.shoot(table, -1, 0, 0));
        }
        for (int part : new int[] {-1, 160, LOW, HIGH}) {
            Check.raises("shoot from " + part, Check.ARGUMENT, x, () -> x.shoot(0, part, 0, 0));
        }
        for (int speed : new int[] {-31, 31, LOW, HIGH}) {
            Check.raises("shoot right " + speed, Check.ARGUMENT, x, () -> x.shoot(0, 0, speed, 0));
            Check.raises("shoot down " + speed, Check.ARGUMENT, x, () -> x.shoot(0, 0, 0, speed));
        }
        x.shoot(0, 0, -30, 30);
        x.shoot(0, 159, 30, -30);
        x.shoot(0, 10, 5, 30);
        Check.due("balls left", x.ballsLeft(0), 0);
        Check.raises("a fourth ball", Check.STATE, x, () -> x.shoot(0, 0, 0, 0));
        Check.raises("a fourth ball from 160", Check.ARGUMENT, x, () -> x.shoot(0, 160, 0, 0));
        x.addTable(0, 1);
        Check.raises("a ball without a game", Check.STATE, x, () -> x.shoot(1, 0, 0, 0));
        Check.raises("a ball with 31 without a game", Check.ARGUMENT, x, () -> x.shoot(1, 0, 0, 31));
    }

    private static void speedDownwards() {
        dueLog("a fall from 0", " 0:0:4:0", 10, 0, 0, bumper(10, 20, 101, 20));
        dueLog("a fall at 30, which is the most", " 0:0:1:0", 10, 0, 30, bumper(10, 30, 101, 0));
        dueLog("a fall at 29", " 0:0:1:0", 10, 0, 29, bumper(10, 30, 101, 0));
        dueLog("a fall at 28, to 30 in step 1", " 0:0:2:0", 10, 0, 28, bumper(10, 60, 101, 0));
        Check.due("a rise to -1, which is 1", bumpsAtOnce(10, 0, -3, bumper(10, 1, 101, 0)), true);
        dueLog("a rise at -30, which turns at 0", " 0:0:1:0", 10, 0, -30, bumper(10, 28, 101, 0));
    }

    /** A ball that bounces without a kick comes back each 14 steps; the next time were step 301. */
    private static void bounces() {
        StringBuilder due = new StringBuilder();
        for (int step = 7; step <= 300; step += 14) {
            due.append(" 0:0:").append(step).append(":0");
        }
        dueLog("bounces without a kick", due.toString(), 45, 0, 0, bumper(45, 50, 110, 0));
        dueLog("a bounce with kick 3, over 0 and down to 81", " 0:0:7:0 1:0:16:0", 45, 0, 0,
                bumper(45, 50, 110, 3), bumper(45, 81, 101, 20));
    }

    private static void walls() {
        dueLog("the right wall", " 0:0:1:0", 150, 20, 0, bumper(148, 0, 101, 0));
        dueLog("behind the right wall, to the left", " 0:0:2:0", 150, 20, 0, bumper(128, 2, 101, 20));
        dueLog("the left wall", " 0:0:1:0", 5, -20, 0, bumper(15, 0, 101, 0));
        dueLog("behind the left wall, to the right", " 0:0:2:0", 5, -20, 0, bumper(35, 2, 101, 20));
        dueLog("to -1, which is 1", " 0:0:1:0", 19, -20, 0, bumper(1, 0, 101, 0));
        dueLog("to 160, which is 158", " 0:0:1:0", 150, 10, 0, bumper(158, 0, 101, 0));
        dueLog("159 is no wall yet", " 0:0:1:0 1:0:2:0", 139, 20, 0, bumper(159, 0, 101, 0), bumper(119, 2, 101, 20));
        dueLog("0 is no wall yet", " 0:0:1:0 1:0:2:0", 20, -20, 0, bumper(0, 0, 101, 0), bumper(40, 2, 101, 20));
        dueLog("a bump behind the wall, with kick 5", " 0:0:1:0 1:0:2:0", 150, 20, 0,
                bumper(148, 0, 101, 5), bumper(143, 2, 101, 20));
    }

    private static void kicks() {
        dueLog("a kick of 10 with x", " 0:0:1:0 1:0:2:0", 70, -15, 0, bumper(0, 0, 6001, 10), bumper(95, 2, 101, 20));
        dueLog("a kick of 20 with x, to 30", " 0:0:1:0 1:0:2:0", 70, -15, 0,
                bumper(0, 0, 6001, 20), bumper(100, 2, 101, 20));
        dueLog("a kick of 10 to the left", " 0:0:1:0 1:0:2:0", 70, 5, 0, bumper(75, 0, 101, 10), bumper(55, 2, 101, 20));
        dueLog("no kick with x at speed 0", " 0:0:1:0 1:0:2:0", 30, 0, 0, bumper(0, 0, 6001, 7), bumper(30, 6, 101, 20));
        dueLog("no kick with y at speed 0", " 0:0:1:0 0:0:1:0 0:0:2:0 1:0:4:0", 30, 0, -2,
                bumper(30, 0, 102, 5), bumper(30, 12, 101, 20));
        dueLog("a kick of 20 with y, to 30 without sign", " 0:0:1:0 1:0:2:0", 30, 0, 18,
                bumper(30, 20, 101, 20), bumper(30, 28, 101, 0));
    }

    /** Tells whether the first entry of a ball is one of step 1. */
    private static boolean bumpsAtOnce(int x, int right, int down, int[] bumper) {
        TiltRoute route = begun(bumper);
        route.shoot(0, x, right, down);
        return route.logged(0) > 0 && route.entryAt(0, 0) == 1 << 8;
    }

    private static void boxes() {
        int[] box = bumper(40, 20, 1005, 0);
        for (int x = 38; x <= 51; x++) {
            for (int y = 18; y <= 26; y++) {
                boolean inside = x >= 40 && x <= 49 && y >= 20 && y <= 24;
                Check.due("with y at " + x + " " + y, bumpsAtOnce(x, 0, y - 2, box), inside);
            }
            Check.due("with x at " + x, bumpsAtOnce(x - 20, 20, 30, bumper(40, 0, 1001, 0)), x >= 40 && x <= 49);
            Check.due("to the left at " + x, bumpsAtOnce(x + 20, -20, 30, bumper(40, 0, 1001, 0)),
                    x >= 40 && x <= 49);
        }
        dueLog("the lowest number of two boxes, further right", " 0:0:1:0", 10, 20, 30,
                bumper(30, 0, 101, 0), bumper(20, 0, 2001, 0));
        dueLog("two boxes, one of which is left", " 1:0:1:0", 10, 15, 30, bumper(30, 0, 101, 0), bumper(20, 0, 2001, 0));
        dueLog("a box over the right edge", " 0:0:1:0", 130, 29, 30, bumper(159, 0, 6001, 0));
    }

    private static void orderOfBumps() {
        dueLog("that with x first", " 1:0:1:0 0:0:1:0", 10, 5, 0, bumper(10, 2, 101, 20), bumper(15, 0, 101, 0));
        TiltRoute x = begun(bumper(10, 0, 103, 20));
        x.shoot(0, 10, 0, 0);
        Check.due("one bumper with x and y in a step", x.entryAt(0, 0), 1L << 8);
        Check.due("one bumper with x and y in a step, again", x.entryAt(0, 1), 1L << 8);
    }

    private static void lowerEdge() {
        TiltRoute z = begun(bumper(20, 239, 160, 20));
        z.shoot(0, 20, 0, 27);
        Check.due("239 is in the field", z.entryAt(0, 0), 8L << 8);
        dueLog("240 is not, with a box there", "", 20, 0, 30, bumper(20, 239, 160, 20));
        dueLog("the bump with x in the step in which the ball is over", " 0:0:8:0", 10, 10, 30,
                bumper(85, 205, 1010, 0));
        TiltRoute x = begun(bumper(100, 0, 101, 0), bumper(120, 0, 101, 0));
        x.stick(0, 1);
        Routes.wait(x, 0);
        Check.due("closings in the step 10, in which the ball is over", Check.logOf(x, 0), " 1:0:10:1");
        Routes.miss(x, 0);
        Check.due("no closings ahead of step 10", x.logged(0), 1);
    }

    /** A ball in a box bumps with x and with y in each step. */
    private static void step300() {
        TiltRoute x = begun(bumper(0, 0, 6060, 20));
        x.shoot(0, 30, 0, 0);
        Check.due("entries of 300 steps", x.logged(0), 600);
        Check.due("the last entry", x.entryAt(0, 599), 300L << 8);
        Check.due("the one ahead of it", x.entryAt(0, 598), 300L << 8);
        Check.due("wear of 300 steps", x.wear(0, 0), 600);
        Check.due("balls left", x.ballsLeft(0), 2);
    }

    private static void stickingSwitches() {
        TiltRoute x = begun(bumper(0, 0, 6060, 0), bumper(100, 0, 101, 0), bumper(120, 0, 101, 0));
        x.stick(0, 2);
        x.stick(0, 0);
        x.shoot(0, 30, 0, 0);
        StringBuilder due = new StringBuilder();
        for (int step = 10; step <= 300; step += 10) {
            due.append(" 0:0:").append(step).append(":2 2:0:").append(step).append(":1");
        }
        Check.due("closings of those that stick, by rising numbers", Check.logOf(x, 0), due.toString());
        Check.due("wear of a bumper whose switch sticks", x.wear(0, 0), 600);
        Check.due("wear of one that is not hit", x.wear(0, 2), 0);
        x.shoot(0, 115, 5, 14);
        Check.due("a hit of one that sticks", x.wear(0, 2), 1);
        Check.due("closings of the next ball", Check.logOf(x, 0), due + " 0:1:10:2 2:1:10:1");
        x.shoot(0, 95, 5, 14);
        Check.due("closings of the last ball", Check.logOf(x, 0),
                due + " 0:1:10:2 2:1:10:1 1:2:1:0 0:2:10:2 2:2:10:1");
        Check.due("the entry of a sticking", x.entryAt(0, 60), 0L + (1 << 4) + (10 << 8) + (2 << 20));
    }

    /** The longest log: two hits in each step, and seven closings each 10 steps. */
    private static void longestLog() {
        TiltRoute x = begun(bumper(0, 0, 6060, 0), bumper(100, 0, 101, 0), bumper(100, 0, 101, 0),
                bumper(100, 0, 101, 0), bumper(100, 0, 101, 0), bumper(100, 0, 101, 0), bumper(100, 0, 101, 0),
                bumper(100, 0, 101, 0));
        for (int i = 1; i < 8; i++) {
            x.stick(0, i);
        }
        for (int ball = 1; ball <= 3; ball++) {
            x.shoot(0, 30, 0, 0);
            Check.due("entries of " + ball + " balls", x.logged(0), ball * 810);
        }
        Check.due("the last entry", x.entryAt(0, 2429), 7L + (2 << 4) + (300 << 8) + (7 << 20));
    }

    private static void hitsAheadOfStickingClosings() {
        TiltRoute x = begun(bumper(100, 0, 101, 0), bumper(0, 0, 6060, 0));
        x.stick(0, 0);
        x.shoot(0, 30, 0, 0);
        Check.due("entry 18", x.entryAt(0, 18), 1L + (10 << 8));
        Check.due("entry 19", x.entryAt(0, 19), 1L + (10 << 8));
        Check.due("entry 20", x.entryAt(0, 20), (10L << 8) + (1 << 20));
        Check.due("entry 21", x.entryAt(0, 21), 1L + (11 << 8));
        Check.due("the last entry", x.entryAt(0, x.logged(0) - 1), (300L << 8) + (1 << 20));
    }

    /** Hits the bumper {0 to 59, 0 to 4} so many times, each time once, with x. */
    private static TiltRoute worn(int hits) {
        TiltRoute x = begun(bumper(0, 0, 6005, 20));
        for (int i = 0; i < hits; i++) {
            x.shoot(0, 70, -15, 0);
            if (x.gameAt(0) == TiltRoute.NONE) {
                x.coin(0);
            }
        }
        Check.due("wear behind " + hits + " hits", x.wear(0, 0), hits);
        return x;
    }

    /** The ball is in the box; in step 1 it is kicked up and away, if the bumper is not broken, and otherwise stays. */
    private static void brokenAtForty() {
        TiltRoute x = worn(39);
        int game = x.gameAt(0);
        int before = x.logged(game);
        Check.due("wanted coils at wear 39", x.wanted(TiltRoute.COILS), 0);
        x.shoot(0, 30, 0, 0);
        Check.due("both bumps at wear 39 kick", x.logged(game) - before, 3);
        TiltRoute z = worn(40);
        game = z.gameAt(0);
        before = z.logged(game);
        Check.due("wanted coils at wear 40", z.wanted(TiltRoute.COILS), 1);
        z.shoot(0, 30, 0, 0);
        Check.due("no bump at wear 40 kicks, but all close", z.logged(game) - before, 600);
        Check.due("wear behind it", z.wear(0, 0), 640);
    }

    private static void brokenWithX() {
        TiltRoute x = begun(bumper(0, 0, 6060, 10), bumper(85, 2, 101, 20));
        x.shoot(0, 30, 0, 0);
        int before = x.logged(0);
        x.shoot(0, 70, -15, 0);
        Check.due("no kick with x", Check.logOf(x, 0).substring(before * 8).contains(" 1:1:2:0"), true);
    }

    private static void growth() {
        TiltRoute x = begun(bumper(0, 0, 6060, 20));
        for (int ball = 0; ball < 3; ball++) {
            x.shoot(0, 100, 0, 0);
        }
        x.setPoints(0, 0, 1000);
        x.setMode(0, 0, 0, 2009, 5000);
        x.coin(0);
        int first = x.shoot(0, 30, 5, 5);
        Check.due("four closings, of which each second one ends the mode", first, 30000);
        Check.due("the score behind the first ball", x.score(1), first);
        Check.due("a ball that hits nothing", x.shoot(0, 159, 0, 30), 0);
        Check.due("the score is kept", x.score(1), first);
        int third = x.shoot(0, 30, 5, 5);
        Check.due("the score behind the third ball", x.score(1), first + third);
    }

    public static void main(String[] args) {
        arguments();
        speedDownwards();
        bounces();
        walls();
        kicks();
        boxes();
        orderOfBumps();
        lowerEdge();
        step300();
        stickingSwitches();
        hitsAheadOfStickingClosings();
        longestLog();
        brokenAtForty();
        brokenWithX();
        growth();
        Check.end();
    }
}
