import java.util.Arrays;

/** Calls of the face by their names, so that what is not as due tells the call itself. */
final class Face {
    private Face() {
    }

    static long call(QuestionRoad x, String name, int... args) {
        Class<?>[] types = new Class<?>[args.length];
        Arrays.fill(types, int.class);
        Object[] values = Arrays.stream(args).boxed().toArray();
        try {
            return ((Number) QuestionRoad.class.getMethod(name, types).invoke(x, values)).longValue();
        } catch (ReflectiveOperationException e) {
            throw new IllegalStateException(shown(name, args), e);
        }
    }

    static String shown(String name, int... args) {
        String row = Arrays.toString(args);
        return name + "(" + row.substring(1, row.length() - 1) + ")";
    }

    static void due(QuestionRoad x, long want, String name, int... args) {
        Checks.due(shown(name, args), call(x, name, args), want);
    }

    /** The answers by what = 0 on, the other numbers standing ahead of it. */
    static void dueRow(QuestionRoad x, long[] want, String name, int... ahead) {
        for (int what = 0; what < want.length; what++) {
            int[] args = Arrays.copyOf(ahead, ahead.length + 1);
            args[ahead.length] = what;
            due(x, want[what], name, args);
        }
    }

    static long[] row(long... numbers) {
        return numbers;
    }
}
