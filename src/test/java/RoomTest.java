import com.sun.management.ThreadMXBean;
import java.lang.management.ManagementFactory;
import java.lang.reflect.InvocationTargetException;
import java.lang.reflect.Method;
import java.lang.reflect.Modifier;
import java.util.Random;

/** No call fails, whatever it is told and however often; and the dearest calls make nothing new. */
public final class RoomTest {
  private static final int[] EDGES = {
      Integer.MIN_VALUE, Integer.MIN_VALUE + 1, -1000, -2, -1, 0, 1, 2, 3, 5, 6, 9, 10, 11, 12, 13, 20, 21, 30, 31, 32,
      48, 59, 60, 61, 110, 118, 127, 128, 255, 256, 400, 401, 1 << 16, Integer.MAX_VALUE - 1, Integer.MAX_VALUE};
  private static final long MOST_BYTES = 64 * 1024;

  private static int wrong = 0;

  public static void main(String[] args) throws IllegalAccessException {
    for (int run = 0; run < 60; run++) {
      anyCalls(new Random(run));
    }
    dearestCalls();
    System.out.println("RoomTest: " + wrong + " wrong");
    if (wrong != 0) {
      System.exit(1);
    }
  }

  private static void anyCalls(Random draw) throws IllegalAccessException {
    OneTuneNine x = new OneTuneNine();
    tell(x, "n93;n01;n52;vx60,9;vs0,0;vt7,3;r42;");
    Method[] methods = OneTuneNine.class.getDeclaredMethods();
    for (int i = 0; i < 2000; i++) {
      Method method = methods[draw.nextInt(methods.length)];
      if (!Modifier.isPublic(method.getModifiers())) {
        continue;
      }
      Object[] told = new Object[method.getParameterCount()];
      for (int k = 0; k < told.length; k++) {
        told[k] = EDGES[draw.nextInt(EDGES.length)];
      }
      try {
        method.invoke(x, told);
      } catch (InvocationTargetException e) {
        wrong++;
        System.out.println(method + " of " + java.util.Arrays.toString(told) + ": " + e.getCause());
      }
    }
  }

  private static void tell(OneTuneNine x, String letters) {
    for (int i = 0; i < letters.length(); i++) {
      x.letter(letters.charAt(i));
    }
    x.canon();
  }

  private static void dearestCalls() {
    OneTuneNine x = new OneTuneNine();
    tell(x, "n03;n13;n23;n33;n43;n53;n63;n73;n83;n93;n03;n13;");
    tell(x, "vs0,0;vt5,1;vb9,2;vx20,3;vf31,4;vs60,5;r42;");
    x.law(125);
    ThreadMXBean threads = (ThreadMXBean) ManagementFactory.getThreadMXBean();
    long me = Thread.currentThread().getId();
    allCalls(x);
    long before = threads.getThreadAllocatedBytes(me);
    for (int i = 0; i < 20; i++) {
      allCalls(x);
    }
    long bytes = threads.getThreadAllocatedBytes(me) - before;
    if (bytes > MOST_BYTES) {
      wrong++;
      System.out.println("calls made " + bytes + " bytes of new things");
    }
  }

  private static void allCalls(OneTuneNine x) {
    x.image();
    x.on();
    x.changed(0);
    x.changed(1);
    x.better();
    x.added();
    x.silent();
    x.unison();
    x.allIll();
    x.mirror();
    x.seeds(20, 7);
    x.entries(3, 4);
    x.agreeing(12, 1);
    x.range(0, 1);
    x.stop(40);
    x.row(9);
    x.who(3);
    x.judge(0, 3);
    tell(x, "w0;w0;");
  }
}
