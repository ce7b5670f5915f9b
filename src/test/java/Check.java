/** Counts the answers that are not as they are due, for the tests of the project. */
final class Check {
    /** A call on a route. */
    interface Call {
        Object answer();
    }

    /** A call on a route with a number. */
    interface CallOf {
        Object answer(int number);
    }

    static final Class<IllegalArgumentException> ARGUMENT = IllegalArgumentException.class;
    static final Class<IllegalStateException> STATE = IllegalStateException.class;
    static final Class<IndexOutOfBoundsException> INDEX = IndexOutOfBoundsException.class;

    private static int asked = 0;
    private static int wrong = 0;
    private static String about = "";

    private Check() {
    }

    static void due(String told, Object got, Object want) {
        asked++;
        if (!want.equals(got)) {
            wrong++;
            System.out.println(about + told + " answered " + cut(got) + ", due is " + cut(want));
        }
    }

    /** Tells what the answers from now on are about; it is printed ahead of each one that is not as due. */
    static void setAbout(String words) {
        about = words;
    }

    static int countAsked() {
        return asked;
    }

    private static String cut(Object answer) {
        String told = String.valueOf(answer);
        return told.length() <= 400 ? told : told.substring(0, 400) + " ..";
    }

    /** Demands that the call throws exactly this, from a throw of the class itself, and changes nothing. */
    static void raises(String told, Class<? extends RuntimeException> want, TiltRoute route, Call call) {
        String before = stateOf(route);
        String got;
        try {
            got = String.valueOf(call.answer());
        } catch (RuntimeException e) {
            got = nameOf(e);
        }
        due(told, got, want.getSimpleName());
        due(told + " changes nothing", stateOf(route), before);
    }

    /** Demands the same of the call with each of these numbers. */
    static void raisesFor(String told, Class<? extends RuntimeException> want, TiltRoute route, int[] numbers,
            CallOf call) {
        for (int number : numbers) {
            raises(told + " " + number, want, route, () -> call.answer(number));
        }
    }

    /**
     * Numbers outside a range: those next to it, the lowest and the highest of all, and some that would be in it if
     * they were cut to 8, 16 or 31 bits.
     */
    static int[] outside(int least, int most) {
        int[] outside = {least - 1, most + 1, Integer.MIN_VALUE, Integer.MAX_VALUE, Integer.MIN_VALUE + least,
            Integer.MIN_VALUE + most, least + 65536, most + 65536, least - 65536, most - 65536, least + 8192,
            most - 8192};
        for (int number : outside) {
            due(number + " is outside of " + least + " to " + most, number < least || number > most, true);
        }
        return outside;
    }

    /** The exception's name, with a sign behind it if the machine or the library has thrown it. */
    static String nameOf(RuntimeException e) {
        StackTraceElement[] trace = e.getStackTrace();
        String thrower = trace.length == 0 ? "" : trace[0].getClassName();
        boolean own = thrower.startsWith("TiltRoute") || thrower.startsWith("PlainRoute");
        return e.getClass().getSimpleName() + (own ? "" : " of " + thrower);
    }

    /** All that can be read of a route without changing it. */
    static String stateOf(TiltRoute x) {
        StringBuilder told = new StringBuilder();
        for (int t = 0; t < x.tables(); t++) {
            told.append("table ").append(t).append(": game ").append(x.gameAt(t)).append(" box ").append(x.box(t))
                    .append(" missing ").append(x.missing(t)).append(" high");
            for (int place = 0; x.high(t, place) != TiltRoute.NONE; place++) {
                told.append(' ').append(x.high(t, place));
            }
            for (int s = 0; s < 8 && hasSwitch(x, t, s); s++) {
                told.append(" wear ").append(x.wear(t, s)).append(x.sticks(t, s) ? " sticks" : "");
            }
            told.append('\n');
        }
        for (int g = 0; g < x.games(); g++) {
            told.append("game ").append(g).append(": balls ").append(x.ballsLeft(g)).append(" stack ")
                    .append(x.stack(g)).append(" score ").append(x.score(g)).append(' ').append(x.scoreByLog(g))
                    .append(' ').append(x.valid(g)).append(" twin ").append(x.twin(g)).append(" log");
            for (int e = 0; e < x.logged(g); e++) {
                told.append(' ').append(x.entryAt(g, e));
            }
            told.append('\n');
        }
        for (int v = 0; v < 2; v++) {
            told.append("van ").append(v).append(": at ").append(x.vanAt(v)).append(" parts ").append(x.parts(v, 0))
                    .append(' ').append(x.parts(v, 1)).append(" way ").append(x.way(v)).append(planOf(x, v));
            told.append('\n');
        }
        return told.append("wanted ").append(x.wanted(0)).append(' ').append(x.wanted(1)).toString();
    }

    static boolean hasSwitch(TiltRoute x, int table, int number) {
        try {
            x.wear(table, number);
            return true;
        } catch (IndexOutOfBoundsException e) {
            return false;
        }
    }

    /** The tables of a van's plan, each behind a blank. */
    static String planOf(TiltRoute x, int van) {
        StringBuilder told = new StringBuilder();
        for (int place = 0; place <= x.tables(); place++) {
            try {
                int table = x.planned(van, place);
                told.append(' ').append(table);
            } catch (IndexOutOfBoundsException e) {
                return told.toString();
            }
        }
        return told.append(" and no end").toString();
    }

    /** The log of a game as switch:ball:step:sticking, each behind a blank; the sticking 0 is that of a hit. */
    static String logOf(TiltRoute x, int game) {
        StringBuilder told = new StringBuilder();
        for (int e = 0; e < x.logged(game); e++) {
            long entry = x.entryAt(game, e);
            told.append(' ').append(entry % 16).append(':').append(entry / 16 % 16).append(':')
                    .append(entry / 256 % 4096).append(':').append(entry / 256 / 4096);
        }
        return told.toString();
    }

    static void end() {
        System.out.println(asked + " answers, " + wrong + " not as due");
        if (wrong != 0) {
            System.exit(1);
        }
    }
}
