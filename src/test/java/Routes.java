/** Tables that the tests use again and again. */
final class Routes {
    private Routes() {
    }

    static int[] bumper(int left, int top, int size, int kick) {
        return new int[] {left, top, size, kick};
    }

    /** A route with a table for 1 coin at the site 0, with the bumpers {left, top, size, kick}, in no game. */
    static TiltRoute withBumpers(int[]... bumpers) {
        TiltRoute x = new TiltRoute();
        x.addTable(0, 1);
        for (int[] b : bumpers) {
            x.addBumper(0, b[0], b[1], b[2], b[3]);
        }
        return x;
    }

    /** The same, with a game begun. */
    static TiltRoute begun(int[]... bumpers) {
        TiltRoute x = withBumpers(bumpers);
        x.coin(0);
        return x;
    }

    /** A route with a table for 1 coin at the site 0, with so many buttons. */
    static TiltRoute withButtons(int buttons) {
        TiltRoute x = new TiltRoute();
        addButtons(x, 0, 1, buttons);
        return x;
    }

    /**
     * Adds a table with buttons: bumpers of one part at y 0, each of which press() hits once, with x, in step 1.
     * Behind it the ball is away from all of them, as its y is never 0 again.
     */
    static int addButtons(TiltRoute x, int site, int price, int buttons) {
        int table = x.addTable(site, price);
        for (int i = 0; i < buttons; i++) {
            x.addBumper(table, 20 * i + 5, 0, 101, 0);
        }
        return table;
    }

    /** Closes a switch by a hit in step 1; the ball is over in step 8, so that no switch closes as it sticks. */
    static int press(TiltRoute x, int table, int button) {
        return x.shoot(table, 20 * button, 5, 30);
    }

    /** Closes a switch by a hit in step 1, and those that stick in step 10, the last one. */
    static int pressAndWait(TiltRoute x, int table, int button) {
        return x.shoot(table, 20 * button, 5, 14);
    }

    /** Lets a ball fall that hits no button; it is over in step 8. */
    static int miss(TiltRoute x, int table) {
        return x.shoot(table, 0, 0, 30);
    }

    /** Lets a ball fall that hits no button; those that stick close in step 10, the last one. */
    static int wait(TiltRoute x, int table) {
        return x.shoot(table, 0, 0, 14);
    }

    /** Shoots a ball from 30; it stays in a box of 60 times 60 parts at 0 0 for 300 steps, with two hits in each. */
    static int stay(TiltRoute x, int table) {
        return x.shoot(table, 30, 0, 0);
    }

    /** Misses until the game at the table is over. */
    static void finish(TiltRoute x, int table) {
        while (x.gameAt(table) != TiltRoute.NONE) {
            miss(x, table);
        }
    }

    /** Plays a whole game that closes nothing. */
    static int playEmpty(TiltRoute x, int table) {
        int game = x.coin(table);
        for (int ball = 0; ball < 3; ball++) {
            miss(x, table);
        }
        return game;
    }

    /** Begins a game and presses three buttons. */
    static int playPresses(TiltRoute x, int table, int first, int second, int third) {
        int game = x.coin(table);
        press(x, table, first);
        press(x, table, second);
        press(x, table, third);
        return game;
    }
}
