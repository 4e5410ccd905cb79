import java.lang.management.ManagementFactory;

/** All calls of one run live in one room: the dearest calls make no objects. */
public final class RoomTest {
  private static final com.sun.management.ThreadMXBean ROOM =
      (com.sun.management.ThreadMXBean) ManagementFactory.getThreadMXBean();

  public static void main(String[] args) {
    playAll(new Perforatum());
    Perforatum x = new Perforatum();
    measure();
    long before = measure();
    playAll(x);
    long made = measure() - before;
    System.out.println("500 calls made " + made + " bytes");
    Check.is("room is kept", made < 10000, true);
    Check.end("RoomTest");
  }

  private static long measure() {
    return ROOM.getThreadAllocatedBytes(Thread.currentThread().getId());
  }

  private static void playAll(Perforatum x) {
    x.roll();
    for (int i = 0; i < 36; i++) {
      x.note(i % 3 * 62, 60, i / 3);
    }
    x.set('g', 0);
    x.arrange(0, true);
    x.copy(0);
    for (int i = 0; i < 46; i++) {
      x.load(i % 2);
      x.tick(100);
      x.tick(100);
      x.isSound();
      x.checksum();
      x.scan(0, 35, 'l');
      x.isMusic(1);
      x.parent(1);
      x.time(200);
      x.loudest();
    }
  }
}
