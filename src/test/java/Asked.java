import java.lang.reflect.Method;

/** A new object and how often it was asked: the document promises nothing behind the 512th call. */
final class Asked {
    private static final int MOST_CALLS = 512;

    private final LabelsOfLines x = new LabelsOfLines();
    private int calls = 0;

    long ask(String name, int... numbers) {
        calls++;
        if (calls > MOST_CALLS) {
            throw new IllegalStateException("more than " + MOST_CALLS + " calls on one object");
        }
        Class<?>[] types = new Class<?>[numbers.length];
        Object[] given = new Object[numbers.length];
        for (int i = 0; i < numbers.length; i++) {
            types[i] = int.class;
            given[i] = numbers[i];
        }
        try {
            Method method = LabelsOfLines.class.getDeclaredMethod(name, types);
            return ((Number) method.invoke(x, given)).longValue();
        } catch (ReflectiveOperationException e) {
            throw new IllegalStateException(name + " does not answer", e);
        }
    }
}
