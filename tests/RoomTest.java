import java.lang.management.ManagementFactory;
import java.lang.reflect.Array;
import java.lang.reflect.Field;
import java.lang.reflect.Modifier;
import java.util.ArrayDeque;
import java.util.Deque;
import java.util.IdentityHashMap;
import java.util.Map;

/** All calls of a run share one room: an object is made small, and no call makes anything more. */
public final class RoomTest {
  private static final long MOST_OBJECTS = 300;
  private static final long MOST_ELEMENTS = 40000;

  public static void main(String[] args) throws Exception {
    Check.part("room of a new object");
    OverNight x = new OverNight();
    long[] room = room(x);
    System.out.println("a new object: " + room[0] + " objects and arrays, " + room[1] + " fields and elements");
    Check.due(true, room[0] <= MOST_OBJECTS && room[1] <= MOST_ELEMENTS);
    Check.part("room of the calls");
    calls(x, 3);
    calls(x, 3);
    Check.due(true, room(x)[0] == room[0] && room(x)[1] == room[1]);
    com.sun.management.ThreadMXBean threads = (com.sun.management.ThreadMXBean) ManagementFactory.getThreadMXBean();
    long id = Thread.currentThread().getId();
    long least = Long.MAX_VALUE;
    for (int i = 0; i < 10; i++) {
      long before = threads.getThreadAllocatedBytes(id);
      calls(x, 1);
      least = Math.min(least, threads.getThreadAllocatedBytes(id) - before);
    }
    // the question itself may take some bytes, texts are kept ready
    System.out.println("all calls: " + least + " bytes");
    Check.due(true, least < 2000);
    Check.end("RoomTest");
  }

  private static final int[][] TOWN = fives("thing a wear; thing b send; thing c; making m gives a hours 2 hands 1; making n gives b hours 3 hands 2 of a;"
      + " making o gives c hours 5 hands 1 with a; person p from 0 to 13; person q from 10 to 2 ill 16; want a at 2 worth 1; want b at 13 worth 20 eaten;");
  private static final int[][] LAW = fives("a stays worn or (not held and here b); b stays day < 3; c stays held;");
  private static final int[][] PLAN = fives("at 0 m by p; at 2 o by p; at 10 n by p q; wear a; hold c;");

  private static int[][] fives(String text) { return Texts.fives(text).toArray(new int[0][]); }

  private static int feed(OverNight x, int[][] text) {
    for (int[] f : text) x.feed(f[0], f[1], f[2], f[3], f[4]);
    return 20 * text.length;
  }

  private static void calls(OverNight x, int times) {
    for (int i = 0; i < times; i++) {
      x.town(feed(x, TOWN));
      x.law(feed(x, LAW));
      x.plan(feed(x, PLAN));
      x.town(feed(x, LAW));
      x.fault(0);
      x.tray(0, 1, 60);
      x.write(0, 1, 5);
      x.read(0, 1);
      x.pour(0, 0, 0, 5, 5);
      x.many(5);
      x.thing(0, 0);
      x.making(0, 3);
      x.awake(0, 0);
      x.want(0, 0);
      x.night(7, 0, 2, 1, 5);
      x.soonest(1, 0);
      x.bars(1, 0, 1);
      x.labour(5, 0);
      x.hands(7);
      x.day(0, 0);
      x.days(0, 9, 5);
      x.step(0);
      x.stepTime(0);
      x.firstNight(3);
      x.price(0, 0, 0);
      x.kept(0, 9);
      x.bestKept(9);
      x.more(0, 9);
      x.bestMore(9);
      x.shift(7);
      x.west(3, 1, 2);
      x.speed(3, 7);
      x.top();
      x.way(0, 20, 1);
      x.judged(0);
      x.done(0, 0);
      x.there(25);
      x.lives(99);
      x.ill(5, 99);
      x.lived(0);
      x.mark();
      x.back();
    }
  }

  /** How many objects and arrays hang on one, and how many fields and elements these have. */
  private static long[] room(Object root) throws Exception {
    Map<Object, Boolean> seen = new IdentityHashMap<>();
    Deque<Object> open = new ArrayDeque<>();
    open.add(root);
    seen.put(root, true);
    long elements = 0;
    while (!open.isEmpty()) {
      Object o = open.pop();
      if (o.getClass().isArray()) {
        elements += Array.getLength(o);
        if (o instanceof Object[] all) for (Object e : all) if (e != null && seen.put(e, true) == null) open.push(e);
        continue;
      }
      for (Field f : o.getClass().getDeclaredFields()) {
        if (Modifier.isStatic(f.getModifiers())) continue;
        elements++;
        if (f.getType().isPrimitive()) continue;
        f.setAccessible(true);
        Object e = f.get(o);
        if (e != null && seen.put(e, true) == null) open.push(e);
      }
    }
    return new long[] {seen.size(), elements};
  }
}
