import java.lang.reflect.Method;
import java.util.Arrays;

/** One call, by its name, that can be made on a BestSplits as well as on the plain model. */
record Call(String name, int... args) {
  static Call of(String name, int... args) {
    return new Call(name, args);
  }

  int on(Object object) {
    Class<?>[] types = new Class<?>[args.length];
    Arrays.fill(types, int.class);
    try {
      Method method = object.getClass().getDeclaredMethod(name, types);
      return (Integer) method.invoke(object, Arrays.stream(args).boxed().toArray());
    } catch (ReflectiveOperationException e) {
      throw new IllegalStateException(this + " could not be made", e);
    }
  }

  @Override
  public String toString() {
    String list = Arrays.toString(args);
    return name + "(" + list.substring(1, list.length() - 1) + ")";
  }
}
