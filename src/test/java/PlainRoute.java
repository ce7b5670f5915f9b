import java.util.ArrayList;
import java.util.Arrays;
import java.util.HashSet;
import java.util.List;
import java.util.Set;
import java.util.stream.Collectors;

/**
 * The document once more, as plainly as it can be written: every score is played from the log, every way is tried.
 * It shares nothing with TiltRoute, so that a slip in one of them shows as another answer.
 */
final class PlainRoute {
    static final class Bumper {
        int left;
        int top;
        int width;
        int height;
        int kick;
        int points;
        int wear;
        Integer sticking;
    }

    static final class Table {
        int site;
        int price;
        int box;
        int plays;
        int missing;
        int game = -1;
        List<Bumper> bumpers = new ArrayList<>();
        int[][] modes = new int[4][];
    }

    static final class Game {
        int table;
        int balls = 3;
        int[] points;
        int[][] modes;
        List<Long> log = new ArrayList<>();
    }

    private final List<Table> tables = new ArrayList<>();
    private final List<Game> games = new ArrayList<>();
    private final int[] sites = new int[2];
    private final int[][] parts = new int[2][2];
    private final Set<Integer> mended = new HashSet<>();
    private int stickings = 0;

    private static void index(boolean right) {
        if (!right) {
            throw new IndexOutOfBoundsException();
        }
    }

    private static void argument(boolean right) {
        if (!right) {
            throw new IllegalArgumentException();
        }
    }

    private static void state(boolean right) {
        if (!right) {
            throw new IllegalStateException();
        }
    }

    private static boolean within(int value, int least, int most) {
        return least <= value && value <= most;
    }

    private Table table(int table) {
        index(within(table, 0, tables.size() - 1));
        return tables.get(table);
    }

    private Bumper bumper(int table, int number) {
        List<Bumper> bumpers = table(table).bumpers;
        index(within(number, 0, bumpers.size() - 1));
        return bumpers.get(number);
    }

    private Game game(int game) {
        index(within(game, 0, games.size() - 1));
        return games.get(game);
    }

    int addTable(int site, int price) {
        argument(within(site, 0, 100) && within(price, 1, 9));
        state(tables.size() < 6);
        Table made = new Table();
        made.site = site;
        made.price = price;
        tables.add(made);
        return tables.size() - 1;
    }

    int addBumper(int table, int left, int top, int size, int kick) {
        Table at = table(table);
        argument(within(left, 0, 159) && within(top, 0, 239) && within(kick, 0, 20) && size > 0);
        argument(within(size / 100, 1, 60) && within(size - size / 100 * 100, 1, 60));
        state(at.game < 0 && at.bumpers.size() < 8);
        Bumper made = new Bumper();
        made.left = left;
        made.top = top;
        made.width = size / 100;
        made.height = size - made.width * 100;
        made.kick = kick;
        at.bumpers.add(made);
        return at.bumpers.size() - 1;
    }

    int setPoints(int table, int number, int points) {
        Bumper bumper = bumper(table, number);
        argument(within(points, 0, 1000));
        state(table(table).game < 0);
        int before = bumper.points;
        bumper.points = points;
        return before;
    }

    boolean setMode(int table, int mode, int switches, int limit, int bonus) {
        Table at = table(table);
        index(within(mode, 0, 3));
        if (switches >= 0) {
            bumper(table, switches / 10);
            bumper(table, switches - switches / 10 * 10);
        }
        argument(switches >= -1 && within(bonus, 0, 5000) && limit > 0);
        argument(within(limit / 100, 1, 20) && within(limit - limit / 100 * 100, 2, 9));
        state(at.game < 0);
        boolean before = at.modes[mode] != null;
        at.modes[mode] = switches < 0 ? null
                : new int[] {switches / 10, switches % 10, limit / 100, limit % 100, bonus};
        return before;
    }

    int tables() {
        return tables.size();
    }

    int stick(int table, int number) {
        Bumper bumper = bumper(table, number);
        state(bumper.sticking == null && stickings < 60);
        bumper.sticking = stickings;
        return stickings++;
    }

    boolean sticks(int table, int number) {
        return bumper(table, number).sticking != null;
    }

    int wear(int table, int number) {
        return bumper(table, number).wear;
    }

    int coin(int table) {
        Table at = table(table);
        state(at.game < 0 && games.size() < 40);
        Game made = new Game();
        made.table = table;
        made.points = at.bumpers.stream().mapToInt(b -> b.points).toArray();
        made.modes = Arrays.copyOf(at.modes, 4);
        games.add(made);
        at.game = games.size() - 1;
        at.box += at.price;
        at.plays++;
        return at.game;
    }

    int shoot(int table, int x, int right, int down) {
        Table at = table(table);
        argument(within(x, 0, 159) && within(right, -30, 30) && within(down, -30, 30));
        state(at.game >= 0);
        Game game = games.get(at.game);
        int before = played(game, Set.of())[0];
        int[] ball = {x, 0, right, down};
        boolean over = false;
        for (int step = 1; step <= 300 && !over; step++) {
            over = stepBall(at, game, ball, step);
        }
        game.balls--;
        if (game.balls == 0) {
            at.game = -1;
        }
        return played(game, Set.of())[0] - before;
    }

    /** The ball is {x, y, speed to the right, speed downwards}; returns whether it is over. */
    private static boolean stepBall(Table at, Game game, int[] ball, int step) {
        List<Bumper> bumped = new ArrayList<>();
        ball[3] = ball[3] + 2 > 30 ? 30 : ball[3] + 2;
        int was = ball[0];
        ball[0] += ball[2];
        if (ball[0] < 0) {
            ball[0] *= -1;
            ball[2] *= -1;
        } else if (ball[0] > 159) {
            ball[0] = 318 - ball[0];
            ball[2] *= -1;
        }
        bump(at, ball, 0, was, bumped);
        was = ball[1];
        ball[1] += ball[3];
        boolean over = ball[1] > 239;
        if (!over) {
            if (ball[1] < 0) {
                ball[1] *= -1;
                ball[3] *= -1;
            }
            bump(at, ball, 1, was, bumped);
        }
        for (Bumper b : bumped) {
            b.wear++;
            if (b.sticking == null) {
                log(game, at.bumpers.indexOf(b), step, 0);
            }
        }
        for (Bumper b : at.bumpers) {
            if (step % 10 == 0 && b.sticking != null) {
                log(game, at.bumpers.indexOf(b), step, b.sticking + 1);
            }
        }
        return over;
    }

    private static void bump(Table at, int[] ball, int axis, int was, List<Bumper> bumped) {
        for (Bumper b : at.bumpers) {
            if (within(ball[0], b.left, b.left + b.width - 1) && within(ball[1], b.top, b.top + b.height - 1)) {
                bumped.add(b);
                ball[axis] = was;
                int speed = -ball[axis + 2];
                if (b.wear < 40 && speed != 0) {
                    speed += speed < 0 ? -b.kick : b.kick;
                    speed = speed > 30 ? 30 : speed < -30 ? -30 : speed;
                }
                ball[axis + 2] = speed;
                return;
            }
        }
    }

    private static void log(Game game, int number, int step, int sticking) {
        game.log.add(number + 16L * (3 - game.balls) + 256L * step + 256L * 4096 * sticking);
    }

    /** Plays a log without some stickings; returns the score and the stack as a number. */
    private static int[] played(Game game, Set<Integer> without) {
        List<int[]> stack = new ArrayList<>();
        int score = 0;
        for (long entry : game.log) {
            int number = (int) (entry % 16);
            if (without.contains((int) (entry / 256 / 4096) - 1)) {
                continue;
            }
            int[] top = stack.isEmpty() ? null : stack.get(stack.size() - 1);
            score += game.points[number] * (top == null ? 1 : game.modes[top[0]][3]);
            if (top != null) {
                top[1]++;
                if (game.modes[top[0]][1] == number || game.modes[top[0]][2] == top[1]) {
                    score += game.modes[top[0]][4];
                    stack.remove(stack.size() - 1);
                    continue;
                }
            }
            Set<Integer> there = stack.stream().map(m -> m[0]).collect(Collectors.toSet());
            for (int mode = 0; mode < 4 && stack.size() < 3; mode++) {
                if (game.modes[mode] != null && game.modes[mode][0] == number && !there.contains(mode)) {
                    stack.add(new int[] {mode, 0});
                    break;
                }
            }
        }
        String told = stack.stream().map(m -> String.valueOf(m[0] + 1)).collect(Collectors.joining());
        return new int[] {score, told.isEmpty() ? 0 : Integer.parseInt(told)};
    }

    int gameAt(int table) {
        return table(table).game;
    }

    int games() {
        return games.size();
    }

    int ballsLeft(int game) {
        return game(game).balls;
    }

    int stack(int game) {
        return played(game(game), Set.of())[1];
    }

    int score(int game) {
        return played(game(game), Set.of())[0];
    }

    int scoreByLog(int game) {
        return score(game);
    }

    int valid(int game) {
        return played(game(game), mended)[0];
    }

    int logged(int game) {
        return game(game).log.size();
    }

    long entryAt(int game, int entry) {
        index(within(entry, 0, game(game).log.size() - 1));
        return game(game).log.get(entry);
    }

    int twin(int game) {
        Game one = game(game);
        for (int other = 0; other < games.size() && one.balls == 0 && !one.log.isEmpty(); other++) {
            if (other != game && games.get(other).balls == 0 && games.get(other).log.equals(one.log)) {
                return other;
            }
        }
        return -1;
    }

    int high(int table, int place) {
        table(table);
        argument(place >= 0);
        List<Integer> ranked = new ArrayList<>();
        for (int i = 0; i < games.size(); i++) {
            if (games.get(i).table == table && games.get(i).balls == 0) {
                ranked.add(i);
            }
        }
        ranked.sort((a, b) -> valid(a) != valid(b) ? valid(b) - valid(a) : a - b);
        return place < ranked.size() ? ranked.get(place) : -1;
    }

    int rob(int table, int coins) {
        Table at = table(table);
        argument(within(coins, 1, 100));
        state(at.box >= coins);
        at.box -= coins;
        return at.box;
    }

    int box(int table) {
        return table(table).box;
    }

    int missing(int table) {
        return table(table).missing;
    }

    int load(int van, int kind, int count) {
        index(within(van, 0, 1));
        argument(within(kind, 0, 1) && within(count, 1, 20));
        state(parts[van][kind] + count <= 20);
        parts[van][kind] += count;
        return parts[van][kind];
    }

    int parts(int van, int kind) {
        index(within(van, 0, 1));
        argument(within(kind, 0, 1));
        return parts[van][kind];
    }

    int wanted(int kind) {
        argument(within(kind, 0, 1));
        long faults = tables.stream().flatMap(t -> t.bumpers.stream())
                .filter(b -> kind == 0 ? b.sticking != null : b.wear >= 40).count();
        int less = (int) faults - parts[0][kind] - parts[1][kind];
        return less < 0 ? 0 : less;
    }

    private List<Integer> needy() {
        List<Integer> found = new ArrayList<>();
        for (int i = 0; i < tables.size(); i++) {
            Table t = tables.get(i);
            boolean faults = t.bumpers.stream().anyMatch(b -> b.sticking != null || b.wear >= 40);
            if (t.game < 0 && (t.box >= 20 || faults)) {
                found.add(i);
            }
        }
        return found;
    }

    /** The shortest way through the tables that are left: its length, and behind it its tables. */
    private List<Integer> shortest(int from, List<Integer> left) {
        if (left.isEmpty()) {
            return List.of(0);
        }
        List<Integer> best = null;
        for (Integer next : left) {
            List<Integer> rest = new ArrayList<>(left);
            rest.remove(next);
            int site = tables.get(next).site;
            List<Integer> way = new ArrayList<>(shortest(site, rest));
            way.set(0, way.get(0) + Math.abs(site - from));
            way.add(1, next);
            if (best == null || way.get(0) < best.get(0)) {
                best = way;
            }
        }
        return best;
    }

    int way(int van) {
        index(within(van, 0, 1));
        return shortest(sites[van], needy()).get(0);
    }

    int planned(int van, int place) {
        index(within(van, 0, 1));
        List<Integer> way = shortest(sites[van], needy());
        index(within(place, 0, way.size() - 2));
        return way.get(place + 1);
    }

    int go(int van) {
        index(within(van, 0, 1));
        List<Integer> way = shortest(sites[van], needy());
        state(way.size() > 1);
        int taken = 0;
        for (int table : way.subList(1, way.size())) {
            Table at = tables.get(table);
            taken += at.box;
            at.missing += at.plays * at.price - at.box;
            at.plays = 0;
            at.box = 0;
            for (Bumper b : at.bumpers) {
                if (b.sticking != null && parts[van][0] > 0) {
                    parts[van][0]--;
                    mended.add(b.sticking);
                    b.sticking = null;
                }
                if (b.wear >= 40 && parts[van][1] > 0) {
                    parts[van][1]--;
                    b.wear = 0;
                }
            }
            sites[van] = at.site;
        }
        return taken;
    }

    int vanAt(int van) {
        index(within(van, 0, 1));
        return sites[van];
    }
}
