import java.lang.management.ManagementFactory;

/** What a run of calls makes: all of it in the constructor, and little there. */
public final class RoomTest {
  private static final String TEXT = "plain 60 0;brave 50 0;silk 40 0;plain 30 0;over 1 0;knot 2 3;cut 0 9;cut 1 8;cut 2 7;cut 3 6;cut 0 5;cut 1 4";

  private static long made() {
    com.sun.management.ThreadMXBean bean = (com.sun.management.ThreadMXBean) ManagementFactory.getThreadMXBean();
    return bean.getThreadAllocatedBytes(Thread.currentThread().getId());
  }

  private static int calls(WhoseThread x) {
    int sum = 0;
    for (int i = 0; i < TEXT.length(); i++) sum += x.write(TEXT.charAt(i));
    sum += x.fault() + x.loom() + x.erase();
    for (int a = -1; a < 5; a++) {
      sum += x.takes(a) + x.loss(a) + x.lifts(a, 0) + x.doom(a) + x.swapped(a) + x.tails(a) + x.given(a, 9, 2);
      sum += x.cat(a, 0) + x.mean(a) + x.whose(a) + x.fourth(a) + x.count(a) + x.thread(a, 4) + x.as(a, 0);
      sum += x.order(a, 1) + x.top(a) + x.knot(a, 1, 1) + x.put(a, 2) + x.dye(a, 1) + x.go(1) + x.keep(a) + x.cut(a);
      sum += x.lift(a) + x.tails(a) + x.undo() + x.back(a);
    }
    for (int i = 0; i < "loom".length(); i++) sum += x.write("loom".charAt(i));
    return sum + x.loom();
  }

  public static void main(String[] args) {
    WhoseThread x = new WhoseThread();
    int sum = calls(x);
    long before = made();
    for (int i = 0; i < 200; i++) sum += calls(x);
    long byCalls = made() - before;
    before = made();
    WhoseThread[] all = new WhoseThread[100];
    for (int i = 0; i < 100; i++) all[i] = new WhoseThread();
    long each = (made() - before) / 100;
    System.out.println("calls made " + byCalls + " bytes, an object takes " + each + " (" + (sum & 1) + (all[99] == x ? "x" : "") + ")");
    boolean fits = byCalls < 20000 && each < 10000;
    if (!fits) {
      System.out.println("that is more than is due");
      System.exit(1);
    }
  }
}
