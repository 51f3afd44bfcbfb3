import java.lang.reflect.Method;
import java.util.Arrays;

/** A call by its name, so that rows of calls can stand in a table. */
final class Call {
    private final String name;
    private final int[] numbers;

    Call(String name, int... numbers) {
        this.name = name;
        this.numbers = numbers;
    }

    long on(RailOffsets x) {
        Object[] arguments = Arrays.stream(numbers).boxed().toArray();
        for (Method m : RailOffsets.class.getMethods()) {
            if (m.getName().equals(name) && m.getParameterCount() == numbers.length) {
                return answer(m, x, arguments);
            }
        }
        throw new IllegalArgumentException("no such call: " + this);
    }

    /** What the class throws is no answer at all: the test ends by it. */
    private static long answer(Method m, RailOffsets x, Object[] arguments) {
        try {
            return ((Number) m.invoke(x, arguments)).longValue();
        } catch (ReflectiveOperationException e) {
            throw new IllegalStateException(m.getName() + Arrays.toString(arguments), e);
        }
    }

    @Override
    public String toString() {
        return name + Arrays.toString(numbers).replace('[', '(').replace(']', ')');
    }
}
