import java.util.ArrayList;
import java.util.List;

/** Long runs of calls, the same on the program and on the oracle, by fixed seeds. */
public final class OracleTest {
  private static final int RUNS = 1500;
  private static final int CALLS = 512;
  private static final int[] EXTREMES = {
    Integer.MIN_VALUE, -201, -3, -1, 12, 13, 15, 16, 60, 61, 100, 101, 199, 200, 201, 300, 301,
    999, 1000, Integer.MAX_VALUE
  };

  private long seed;
  private final Perforatum x = new Perforatum();
  private final Oracle due = new Oracle();
  private final List<String> calls = new ArrayList<>();
  private final int style;

  private OracleTest(int run) {
    seed = run * 7919L + 1;
    style = run % 4;
  }

  public static void main(String[] args) {
    for (int run = 0; run < RUNS; run++) {
      if (!new OracleTest(run).isAsDue()) {
        System.out.println("run " + run + " differs");
        System.exit(1);
      }
    }
    Check.end("OracleTest, " + RUNS + " runs");
  }

  private int pick(int bound) {
    seed = seed * 6364136223846793005L + 1442695040888963407L;
    return (int) ((seed >>> 33) % bound);
  }

  /** A number from least to most, now and then one out of range. */
  private int number(int least, int most) {
    int luck = pick(60);
    if (luck == 0) {
      return EXTREMES[pick(EXTREMES.length)];
    }
    if (luck == 1) {
      return pick(2) == 0 ? least - 1 : most + 1;
    }
    if (luck < 5) {
      return pick(2) == 0 ? least : most;
    }
    return least + pick(most - least + 1);
  }

  private char sign(String signs) {
    return pick(40) == 0 ? (char) pick(256) : signs.charAt(pick(signs.length()));
  }

  private boolean same(String call, Check.Call got, Check.Call want) {
    Object answer = Check.answerOf(got);
    Object right = Check.answerOf(want);
    calls.add(call + " = " + answer);
    Check.is(call, answer, right);
    if (!right.equals(answer)) {
      calls.forEach(System.out::println);
      return false;
    }
    return true;
  }

  private boolean isAsDue() {
    for (int i = 0; i < CALLS - 16; i++) {
      int kind = i < 120 && pick(3) > 0 ? pick(45) : pick(100);
      boolean isRight = kind < 45 ? build(kind) : kind < 80 ? play(kind) : look(kind);
      if (!isRight) {
        return false;
      }
    }
    return same("checksum()", x::checksum, due::checksum)
        && same("heardShare()", x::heardShare, due::heardShare)
        && same("meanLoud()", x::meanLoud, due::meanLoud)
        && same("isSound()", x::isSound, due::isSound);
  }

  private int someRoll() {
    return number(0, 1 + pick(3));
  }

  private int someRow() {
    Object row = pick(2) == 0 ? Check.answerOf(due::row) : "";
    return row instanceof Integer r ? number(r, Math.min(199, r + 4)) : number(0, style == 0 ? 199 : 30);
  }

  private boolean build(int kind) {
    int roll = someRoll();
    if (kind < 22) {
      int row = someRow();
      int track = number(0, 15);
      boolean is = pick(4) > 0;
      return same("punch(" + roll + ", " + row + ", " + track + ", " + is + ")",
          () -> x.punch(roll, row, track, is), () -> due.punch(roll, row, track, is));
    }
    if (kind < 35) {
      int first = number(0, style == 1 ? 60 : 199);
      int length = style == 2 ? number(40, 60) : number(1, 20);
      int pitch = number(0, 11);
      return same("note(" + first + ", " + length + ", " + pitch + ")",
          () -> x.note(first, length, pitch), () -> due.note(first, length, pitch));
    }
    if (kind < 40) {
      boolean has = pick(3) > 0;
      return same("arrange(" + roll + ", " + has + ")", () -> x.arrange(roll, has),
          () -> due.arrange(roll, has));
    }
    if (kind < 42) {
      return same("roll()", x::roll, due::roll);
    }
    if (kind < 44) {
      return same("copy(" + roll + ")", () -> x.copy(roll), () -> due.copy(roll));
    }
    return pick(4) > 0 || same("wipe()", x::wipe, due::wipe);
  }

  private boolean play(int kind) {
    int note = number(0, 11);
    if (kind < 60) {
      if (!due.isPlaying()) {
        int roll = someRoll();
        return same("load(" + roll + ")", () -> x.load(roll), () -> due.load(roll));
      }
      int rows = pick(3) > 0 ? number(1, 3) : number(1, 100);
      return same("tick(" + rows + ")", () -> x.tick(rows), () -> due.tick(rows));
    }
    if (kind < 64) {
      int delay = number(0, 5);
      int rest = number(0, 9);
      return same("valve(" + note + ", " + delay + ", " + rest + ")",
          () -> x.valve(note, delay, rest), () -> due.valve(note, delay, rest));
    }
    if (kind < 66) {
      int use = number(0, 99);
      return same("use(" + note + ", " + use + ")", () -> x.use(note, use),
          () -> due.use(note, use));
    }
    if (kind < 69) {
      int other = pick(3) == 0 ? note : number(0, 11);
      return same("borrow(" + note + ", " + other + ")", () -> x.borrow(note, other),
          () -> due.borrow(note, other));
    }
    if (kind < 73) {
      char what = sign("glpk");
      int most = what == 'g' ? 3 : what == 'l' ? 999 : what == 'p' ? 300 : 99;
      int number = style == 2 && what == 'g' ? 0 : number(0, most);
      return same("set(" + what + ", " + number + ")", () -> x.set(what, number),
          () -> due.set(what, number));
    }
    if (kind < 75) {
      char maker = sign("abc");
      return same("maker(" + maker + ")", () -> x.maker(maker), () -> due.maker(maker));
    }
    if (kind < 78) {
      int tracks = number(-2, 2);
      return same("aside(" + tracks + ")", () -> x.aside(tracks), () -> due.aside(tracks));
    }
    if (kind < 79) {
      int roll = someRoll();
      return same("load(" + roll + ")", () -> x.load(roll), () -> due.load(roll));
    }
    int first = number(100, 900);
    int growth = number(0, 50);
    return same("speed(" + first + ", " + growth + ")", () -> x.speed(first, growth),
        () -> due.speed(first, growth));
  }

  private boolean look(int kind) {
    return kind < 90 ? lookAtPlaying(pick(11)) : lookAtRolls(pick(12));
  }

  private boolean lookAtPlaying(int kind) {
    int note = number(0, 11);
    int index = number(0, Math.max(0, due.soundings()));
    char what = sign("noflv");
    switch (kind) {
      case 0: return same("isPlaying()", x::isPlaying, due::isPlaying);
      case 1: return same("row()", x::row, due::row);
      case 2: return same("suction()", x::suction, due::suction);
      case 3: return same("level()", x::level, due::level);
      case 4: return same("isOpen(" + note + ")", () -> x.isOpen(note), () -> due.isOpen(note));
      case 5: return same("isHeard(" + note + ")", () -> x.isHeard(note), () -> due.isHeard(note));
      case 6: return same("soundings()", x::soundings, due::soundings);
      case 7: return same("loudest()", x::loudest, due::loudest);
      case 8: return same("heardShare()", x::heardShare, due::heardShare);
      case 9: return same("meanLoud()", x::meanLoud, due::meanLoud);
      default: return same("sounding(" + index + ", " + what + ")", () -> x.sounding(index, what),
          () -> due.sounding(index, what));
    }
  }

  private boolean lookAtRolls(int kind) {
    int roll = someRoll();
    int other = someRoll();
    int row = someRow();
    int track = number(0, 15);
    int index = number(0, 30);
    char what = sign("flp");
    switch (kind) {
      case 0: return same("hole(" + roll + ", " + row + ", " + track + ")",
          () -> x.hole(roll, row, track), () -> due.hole(roll, row, track));
      case 1: return same("length(" + roll + ")", () -> x.length(roll), () -> due.length(roll));
      case 2: return same("holes(" + roll + ", " + track + ")", () -> x.holes(roll, track),
          () -> due.holes(roll, track));
      case 3: return same("unlike(" + roll + ", " + other + ")", () -> x.unlike(roll, other),
          () -> due.unlike(roll, other));
      case 4: return same("parent(" + roll + ")", () -> x.parent(roll), () -> due.parent(roll));
      case 5: return same("scanned(" + roll + ")", () -> x.scanned(roll), () -> due.scanned(roll));
      case 6: return same("isMusic(" + roll + ")", () -> x.isMusic(roll), () -> due.isMusic(roll));
      case 7: return same("checksum()", x::checksum, due::checksum);
      case 8: return same("isSound()", x::isSound, due::isSound);
      case 9: return same("time(" + row + ")", () -> x.time(row), () -> due.time(row));
      default: return same("scan(" + roll + ", " + index + ", " + what + ")",
          () -> x.scan(roll, index, what), () -> due.scan(roll, index, what));
    }
  }
}
