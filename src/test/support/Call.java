import java.lang.reflect.InvocationTargetException;
import java.lang.reflect.Method;
import java.util.Arrays;

/** A call, told by its name and its numbers, so that a table can hold it. */
final class Call {
  private final Method method;
  private final int[] numbers;

  private Call(Method method, int[] numbers) {
    this.method = method;
    this.numbers = numbers;
  }

  static Call of(String name, int... numbers) {
    for (Method method : GripBench.class.getMethods()) {
      if (method.getName().equals(name) && method.getDeclaringClass() == GripBench.class) {
        if (method.getParameterCount() != numbers.length) throw new IllegalArgumentException(name);
        return new Call(method, numbers);
      }
    }
    throw new IllegalArgumentException(name);
  }

  /** The same call with another number at one place. */
  Call with(int at, int number) {
    int[] other = numbers.clone();
    other[at] = number;
    return new Call(method, other);
  }

  long ask(GripBench x) {
    Object[] boxed = Arrays.stream(numbers).boxed().toArray();
    try {
      return ((Number) method.invoke(x, boxed)).longValue();
    } catch (InvocationTargetException | IllegalAccessException e) {
      throw new IllegalStateException(this + " throws", e);
    }
  }

  @Override
  public String toString() {
    return method.getName() + Arrays.toString(numbers).replace('[', '(').replace(']', ')');
  }
}
