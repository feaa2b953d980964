import java.lang.reflect.InvocationTargetException;
import java.util.Arrays;

/** Calls a method of the class or of the model by its name. */
final class Calls {
    private Calls() {
    }

    /** The answer as a text; where the call throws, "throws." and the exception's name. */
    static String answer(Object asked, String name, int... arguments) {
        Class<?>[] types = new Class<?>[arguments.length];
        Object[] values = new Object[arguments.length];
        for (int place = 0; place < arguments.length; place++) {
            types[place] = int.class;
            values[place] = arguments[place];
        }
        try {
            return asked.getClass().getDeclaredMethod(name, types).invoke(asked, values).toString();
        } catch (InvocationTargetException e) {
            return "throws." + e.getCause().getClass().getSimpleName();
        } catch (ReflectiveOperationException e) {
            throw new IllegalStateException(name + Arrays.toString(arguments), e);
        }
    }
}
