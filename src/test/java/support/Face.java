import java.lang.reflect.InvocationTargetException;
import java.lang.reflect.Method;
import java.lang.reflect.Modifier;
import java.util.Arrays;
import java.util.HashMap;
import java.util.Map;

/** Calls the public methods of a class by their names, with numbers alone. */
final class Face {
  private final Map<String, Method> methods = new HashMap<>();

  Face(Class<?> of) {
    for (Method method : of.getDeclaredMethods()) {
      if (Modifier.isPublic(method.getModifiers())) methods.put(method.getName(), method);
    }
  }

  boolean has(String name, int parameters) {
    return methods.containsKey(name) && methods.get(name).getParameterCount() == parameters;
  }

  boolean answersLong(String name) {
    return methods.get(name).getReturnType() == long.class;
  }

  long call(Object on, String name, long... args) {
    Method method = methods.get(name);
    Object[] boxes = new Object[args.length];
    Class<?>[] types = method.getParameterTypes();
    for (int k = 0; k < args.length; k++) boxes[k] = types[k] == int.class ? (Object) (int) args[k] : (Object) args[k];
    try {
      return ((Number) method.invoke(on, boxes)).longValue();
    } catch (InvocationTargetException e) {
      throw new IllegalStateException(name + Arrays.toString(args) + " threw " + e.getCause(), e.getCause());
    } catch (IllegalAccessException e) {
      throw new IllegalStateException(e);
    }
  }
}
