import java.util.ArrayList;
import java.util.List;

/** Studios to begin with, and a look at all that is in one. */
final class Studio {
  interface Start {
    Perforatum make();
  }

  interface Call {
    Object on(Perforatum x);
  }

  static final Start EMPTY = Perforatum::new;
  static final Start IDLE = Studio::idle;
  static final Start BUSY = Studio::busy;
  static final Start FULL = Studio::full;
  static final List<Start> ANY = List.of(EMPTY, IDLE, BUSY, FULL);
  static final List<Start> WITH_ROLLS = List.of(IDLE, BUSY, FULL);
  static final List<Start> SILENT = List.of(EMPTY, IDLE);
  static final List<Start> PLAYING = List.of(BUSY, FULL);

  private Studio() {}

  static Perforatum withRolls(int count) {
    Perforatum x = new Perforatum();
    for (int i = 0; i < count; i++) {
      x.roll();
    }
    return x;
  }

  /** A studio with one roll with holes at a track, in these rows. */
  static Perforatum withHoles(int track, int... rows) {
    Perforatum x = withRolls(1);
    punchAt(x, track, rows);
    return x;
  }

  /** A studio with one roll with holes at a track, from the first to the last row. */
  static Perforatum withRun(int track, int first, int last) {
    Perforatum x = withRolls(1);
    punchRun(x, track, first, last);
    return x;
  }

  static void punchAt(Perforatum x, int track, int... rows) {
    for (int row : rows) {
      x.punch(0, row, track, true);
    }
  }

  static void punchRun(Perforatum x, int track, int first, int last) {
    for (int row = first; row <= last; row++) {
      x.punch(0, row, track, true);
    }
  }

  /** Two rolls, music, all settings told, and a roll played up to its end. */
  static Perforatum idle() {
    Perforatum x = withRolls(2);
    x.note(2, 9, 0);
    x.note(14, 3, 0);
    x.note(1, 20, 5);
    x.note(7, 10, 8);
    punchAt(x, 13, 0, 6, 21);
    punchAt(x, 14, 4, 9);
    punchRun(x, 12, 8, 15);
    x.punch(1, 3, 3, true);
    x.punch(1, 30, 15, true);
    x.set('g', 0);
    x.set('l', 20);
    x.set('p', 40);
    x.set('k', 3);
    x.maker('b');
    x.valve(0, 1, 4);
    x.valve(7, 2, 2);
    x.use(5, 60);
    x.borrow(3, 4);
    x.speed(300, 7);
    x.arrange(0, true);
    x.load(0);
    x.tick(100);
    return x;
  }

  /** The same, in the middle of the roll: 8 sounds, 5 rings on, it is latched, the paper aside. */
  static Perforatum busy() {
    Perforatum x = idle();
    x.maker('a');
    x.load(0);
    x.tick(9);
    x.aside(-1);
    return x;
  }

  /** 4 rolls, 40 notes, 300 soundings and more, while a roll is played. */
  static Perforatum full() {
    Perforatum x = withRolls(4);
    typeForty(x);
    x.arrange(3, true);
    x.set('g', 0);
    x.borrow(3, 4);
    x.load(3);
    x.tick(100);
    x.tick(34);
    return x;
  }

  /** 36 notes of 60 rows and 4 of 14: all 12 pitches, from the first row to the last one. */
  static void typeForty(Perforatum x) {
    for (int i = 0; i < 36; i++) {
      x.note(i % 3 * 62, 60, i / 3);
    }
    for (int pitch = 0; pitch < 4; pitch++) {
      x.note(186, 14, pitch);
    }
  }

  /** The call is refused so, and a studio behind it is like one without it. */
  static void refuses(
      List<Start> starts, Class<? extends RuntimeException> due, String what, Call call) {
    for (Start start : starts) {
      Perforatum x = start.make();
      Check.refuses(what, due, () -> call.on(x));
      Check.is("all behind a refused " + what, lookAtAll(x), lookAtAll(start.make()));
    }
  }

  /** What some 200 calls answer that, one behind another, show all that a studio holds. */
  static List<Object> lookAtAll(Perforatum x) {
    List<Object> seen = new ArrayList<>();
    lookAtPlaying(seen, x);
    lookAtRolls(seen, x);
    lookAtNextRows(seen, x);
    lookAtSettings(seen, x);
    lookAtRests(seen, x);
    return seen;
  }

  private static void see(List<Object> seen, Check.Call call) {
    seen.add(Check.answerOf(call));
  }

  private static void lookAtPlaying(List<Object> seen, Perforatum x) {
    see(seen, x::isPlaying);
    see(seen, x::row);
    see(seen, x::suction);
    see(seen, x::level);
    for (int note = 0; note < 12; note++) {
      int n = note;
      see(seen, () -> x.isOpen(n));
      see(seen, () -> x.isHeard(n));
    }
    see(seen, x::soundings);
    see(seen, x::loudest);
    see(seen, x::heardShare);
    see(seen, x::meanLoud);
    for (int index = 0; index < 3; index++) {
      int i = index;
      see(seen, () -> x.sounding(i, 'o'));
      see(seen, () -> x.sounding(i, 'l'));
    }
  }

  private static void lookAtRolls(List<Object> seen, Perforatum x) {
    see(seen, x::checksum);
    see(seen, x::isSound);
    for (int roll = 0; roll < 4; roll++) {
      int r = roll;
      see(seen, () -> x.length(r));
      see(seen, () -> x.scanned(r));
      see(seen, () -> x.isMusic(r));
      see(seen, () -> x.parent(r));
    }
    see(seen, () -> x.time(3));
    see(seen, () -> x.time(200));
  }

  private static void lookAtNextRows(List<Object> seen, Perforatum x) {
    for (int i = 0; i < 3; i++) {
      see(seen, () -> x.tick(1));
      see(seen, x::level);
      see(seen, x::suction);
    }
    see(seen, () -> x.aside(0));
    see(seen, () -> x.tick(2));
    see(seen, x::level);
    see(seen, x::checksum);
  }

  private static void lookAtSettings(List<Object> seen, Perforatum x) {
    see(seen, () -> x.set('g', 0));
    see(seen, () -> x.set('l', 0));
    see(seen, () -> x.set('p', 100));
    see(seen, () -> x.set('k', 0));
    see(seen, () -> x.maker('a'));
    see(seen, () -> x.speed(400, 0));
    for (int note = 0; note < 12; note++) {
      int n = note;
      see(seen, () -> x.use(n, 10));
      see(seen, () -> x.borrow(n, n));
    }
  }

  private static void lookAtRests(List<Object> seen, Perforatum x) {
    see(seen, x::roll);
    see(seen, () -> x.arrange(0, false));
    see(seen, x::checksum);
    see(seen, x::wipe);
    for (int pitch = 0; pitch < 12; pitch++) {
      x.note(0, 1, pitch);
      x.note(3, 15, pitch);
    }
    see(seen, () -> x.arrange(0, false));
    see(seen, () -> x.load(0));
    see(seen, () -> x.tick(100));
    see(seen, x::checksum);
    for (int note = 0; note < 12; note++) {
      int n = note;
      see(seen, () -> x.valve(n, 0, 0));
    }
  }
}
