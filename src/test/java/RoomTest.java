import java.lang.management.ManagementFactory;

/** All calls of a run live in one room: the dearest ones must make next to nothing. */
public final class RoomTest {
  private static final Due DUE = new Due("RoomTest");
  private static final long MOST_BYTES = 400_000;

  private static long made() {
    com.sun.management.ThreadMXBean bean = (com.sun.management.ThreadMXBean) ManagementFactory.getThreadMXBean();
    return bean.getThreadAllocatedBytes(Thread.currentThread().getId());
  }

  public static void main(String[] args) {
    made();
    walks();
    waysOfSeven();
    textsAndAnts();
    DUE.end();
  }

  private static AntsTurn seven() {
    AntsTurn x = new AntsTurn();
    for (int i = 0; i < 7; i++) {
      x.ant(i % 6, 100 * (i + 1) + 5, i);
    }
    return x;
  }

  private static void walks() {
    long before = made();
    AntsTurn x = seven();
    for (int k = 0; k < 60; k++) {
      x.plank(1, k % 2);
      x.of(k % 7, k % 5);
      x.at(k % 7, 200, 0);
      x.order(k);
      x.tilt(k);
      x.through(0, k % 3);
      x.carried(k % 7, 0);
      x.round();
    }
    small("walks", before);
  }

  private static void waysOfSeven() {
    long before = made();
    AntsTurn x = seven();
    x.sheet(0, 2, 7);
    for (int k = 0; k < 70; k++) {
      x.set(k % 7, 3, k % 10);
      x.soonest(0);
      x.beLast(0, 0);
      x.longest(0, 0);
      x.fits(0, k % 2, 0);
      x.byThen(100, 0);
      x.drawn(k);
    }
    small("ways", before);
  }

  private static void textsAndAnts() {
    long before = made();
    AntsTurn x = new AntsTurn();
    x.image();
    x.sheet(0, 1, 21);
    for (int i = 0; i < 7; i++) {
      x.cell(0, 3 * i + 1, 105);
    }
    for (int k = 0; k < 90; k++) {
      x.ants(0, 1, 0, 7);
      x.back();
      x.feed('(');
      x.text();
      x.sheet(1, k % 3, 40);
    }
    small("texts and ants", before);
  }

  private static void small(String what, long before) {
    long made = made() - before;
    DUE.holds(what + " made " + made + " bytes", made < MOST_BYTES);
  }
}
