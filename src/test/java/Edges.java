/** Arguments at their edges, and refused calls, on harbours that are made alike for each of them. */
final class Edges {
    interface Made {
        Harbour harbour();
    }

    interface Asked {
        long of(HarbourPilotline x);
    }

    interface AskedWith {
        long of(HarbourPilotline x, int value);
    }

    private final Due due;
    private final Made made;

    Edges(Due due, Made made) {
        this.due = due;
        this.made = made;
    }

    /** The least and the greatest are accepted; the next on each side, and the farthest, are refused. */
    void range(String name, int least, int most, String want, AskedWith call) {
        accepted(name + " " + least, x -> call.of(x, least));
        accepted(name + " " + most, x -> call.of(x, most));
        for (int wrong : new int[] {least - 1, most + 1, Integer.MIN_VALUE, Integer.MAX_VALUE}) {
            refused(name + " " + wrong, want, x -> call.of(x, wrong));
        }
    }

    void accepted(String told, Asked call) {
        Harbour tried = made.harbour();
        String got = Due.outcome(() -> call.of(tried.x));
        if (got.endsWith("Exception")) {
            due.tell(told + " answered " + got + ", but it is accepted");
        }
    }

    /** The exception is the one that is due, and behind it all is as in a harbour without that call. */
    void refused(String told, String want, Asked call) {
        Harbour tried = made.harbour();
        Harbour left = made.harbour();
        due.thrown(told, want, () -> call.of(tried.x));
        String seen = Everything.of(tried.x);
        String alike = Everything.of(left.x);
        if (!seen.equals(alike)) {
            due.tell(told + " was refused, but changed something: " + firstOther(seen, alike));
        }
    }

    private static String firstOther(String seen, String alike) {
        String[] one = seen.split("\n");
        String[] other = alike.split("\n");
        for (int i = 0; i < Math.min(one.length, other.length); i++) {
            if (!one[i].equals(other[i])) {
                return one[i] + ", due is " + other[i];
            }
        }
        return one.length + " answers, due are " + other.length;
    }
}
