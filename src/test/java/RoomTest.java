import java.lang.management.ManagementFactory;
import java.lang.reflect.Array;
import java.lang.reflect.Field;
import java.lang.reflect.Modifier;
import java.util.ArrayList;
import java.util.IdentityHashMap;
import java.util.List;
import java.util.Map;

/** One object is small, and 512 of the dearest calls make nothing. */
public final class RoomTest {
  private static int wrong = 0;
  private static long sum = 0;

  public static void main(String[] args) throws Exception {
    CommonDenominator x = new CommonDenominator();
    long[] size = size(x);
    due("objects and arrays: " + size[0], size[0] <= 150);
    due("fields and elements: " + size[1], size[1] <= 6000);
    run(x);
    long before = allocated();
    run(new CommonDenominator());
    long made = allocated() - before;
    due("bytes made by an object and its calls: " + made, made <= 200000);
    System.out.println(wrong == 0 ? "room is kept (" + size[0] + " objects, " + size[1] + " fields)" : "too much room");
    if (wrong != 0) System.exit(1);
  }

  private static void due(String what, boolean right) {
    if (right) return;
    wrong++;
    System.out.println("too much: " + what);
  }

  private static long allocated() {
    return ((com.sun.management.ThreadMXBean) ManagementFactory.getThreadMXBean()).getCurrentThreadAllocatedBytes();
  }

  private static void run(CommonDenominator x) {
    x.set(0, 0, 1, 0, 1);
    x.set(1, 0, 0, 1, 1);
    x.begin(0, 1);
    for (int k = 0; k < 32; k++) {
      sum += x.go(60) + x.shared(0) + x.relation(9, 0) + x.simplest(true, 0) + x.unit(0) + x.would(0, 1, 1, 0);
      x.feed(0x31203120, 0x3B203220, 0x32202020, 0x20202020, 0x20202020);
      sum += x.read() + x.undo() + x.image(0) + x.begin(0, 1) + x.go(3) + x.undo() + x.undo() + x.back(0) + x.keep(2, 3);
    }
  }

  private static long[] size(Object root) throws Exception {
    Map<Object, Boolean> seen = new IdentityHashMap<>();
    List<Object> open = new ArrayList<>(List.of(root));
    long fields = 0;
    seen.put(root, true);
    for (int k = 0; k < open.size(); k++) {
      Object one = open.get(k);
      List<Object> parts = new ArrayList<>();
      if (one.getClass().isArray()) {
        int length = Array.getLength(one);
        fields += length;
        if (!one.getClass().getComponentType().isPrimitive()) for (int n = 0; n < length; n++) parts.add(Array.get(one, n));
      } else {
        for (Field field : one.getClass().getDeclaredFields()) {
          if (Modifier.isStatic(field.getModifiers())) continue;
          fields++;
          field.setAccessible(true);
          if (!field.getType().isPrimitive()) parts.add(field.get(one));
        }
      }
      for (Object part : parts) if (seen.put(part, true) == null) open.add(part);
    }
    return new long[] {open.size(), fields};
  }
}
