import java.math.BigInteger;
import java.util.List;

/** The edges of promises 33 to 38: speed, and the sums over all. */
final class SumEdges {
  private static final int MIN = Integer.MIN_VALUE;
  private static final int MAX = Integer.MAX_VALUE;
  private static final String OUT = "Throws `IllegalArgumentException` if a number is out of range";

  private SumEdges() {}

  static void run() {
    speedIs400AtFirst();
    firstSpeedIsFrom100To900();
    growthIsFrom0To50();
    speedRefusesOutOfRange();
    growthIsCut();
    rowTakesCutTime();
    timeIsOfRows0To200();
    timeRefusesOutOfRange();
    checksumIs7AtFirst();
    checksumGoesByRowsThenTracks();
    checksumWrapsAround();
    checksumTakesSoundings();
    shareOfNoneAndAll();
    shareRefusesNoOpenings();
    meanOfOneAndMany();
    meanRefusesNone();
    everyStudioIsSound();
    arrangedIsTheMusicTillChanged();
    refusedCallsKeepTheArrangement();
    lastOf512CallsIsRight();
  }

  private static void speedIs400AtFirst() {
    Doc.says(33, "`int speed(int first, int growth) throws IllegalArgumentException`: "
        + "Tells the speed, 400 without growth at first.");
    Perforatum x = new Perforatum();
    Check.is("all rows take as long", x.time(200), 200L * 2500L);
    Check.is("400", x.speed(500, 1), 400);
    Check.is("then 500", x.speed(400, 0), 500);
  }

  private static void firstSpeedIsFrom100To900() {
    Doc.says("Speed. The speed is told as a first one, 100 to 900");
    for (int first : new int[] {100, 101, 899, 900}) {
      Perforatum x = new Perforatum();
      Check.is("told", x.speed(first, 0), 400);
      Check.is("its row", x.time(1), (long) (1000000 / first));
      Check.is("the one before", x.speed(400, 0), first);
    }
    for (int first : new int[] {99, 901, 0, -100, 1000, MIN, MAX}) {
      Studio.refuses(Studio.ANY, Check.ARGUMENT, "speed " + first, x -> x.speed(first, 0));
    }
  }

  private static void growthIsFrom0To50() {
    Doc.says("and a growth, 0 to 50:");
    for (int growth : new int[] {0, 1, 49, 50}) {
      Perforatum x = new Perforatum();
      x.speed(100, growth);
      long due = 1000000 / (100 + 199 * growth / 10);
      Check.is("row 199", x.time(200) - x.time(199), due);
    }
    for (int growth : new int[] {-1, 51, 52, 100, MIN, MAX}) {
      Studio.refuses(Studio.ANY, Check.ARGUMENT, "growth " + growth, x -> x.speed(400, growth));
    }
  }

  private static void speedRefusesOutOfRange() {
    Doc.says(33, OUT);
    for (int[] s : new int[][] {{99, 50}, {901, 0}, {100, 51}, {900, -1}, {99, -1}, {901, 51}}) {
      Studio.refuses(Studio.ANY, Check.ARGUMENT, "speed", x -> x.speed(s[0], s[1]));
    }
  }

  private static void growthIsCut() {
    Doc.says("behind row k it is the first one and k times the growth divided by 10, cut;");
    Perforatum x = new Perforatum();
    x.speed(100, 1);
    for (int row : new int[] {0, 1, 8, 9, 10, 19, 20, 198, 199}) {
      Check.is("row " + row, x.time(row + 1) - x.time(row), (long) (1000000 / (100 + row / 10)));
    }
    x.speed(100, 9);
    Check.is("0.9 is none", x.time(2) - x.time(1), 10000L);
    Check.is("1.8 is one", x.time(3) - x.time(2), 9900L);
    x.speed(100, 10);
    Check.is("1.0 is one", x.time(2) - x.time(1), 9900L);
  }

  private static void rowTakesCutTime() {
    Doc.says("a row takes 1000000 divided by its speed, cut.");
    Perforatum x = new Perforatum();
    x.speed(300, 0);
    Check.is("3333.3", x.time(1), 3333L);
    Check.is("each is cut", x.time(3), 9999L);
    x.speed(101, 0);
    Check.is("9900.99", x.time(1), 9900L);
    x.speed(900, 50);
    Check.is("the fastest row", x.time(200) - x.time(199), 1000000L / 1895L);
  }

  private static void timeIsOfRows0To200() {
    Doc.says("The time of a row is what all rows ahead of it take.");
    Doc.says(34, "- `row`: the row, 0 to 200");
    Perforatum x = new Perforatum();
    Check.is("none ahead of row 0", x.time(0), 0L);
    x.speed(100, 50);
    Check.is("still none", x.time(0), 0L);
    Check.is("row 0 alone", x.time(1), 10000L);
    long sum = 0;
    for (int k = 0; k < 200; k++) {
      sum += 1000000 / (100 + k * 50 / 10);
      Check.is("time of row " + (k + 1), x.time(k + 1), sum);
    }
    x.speed(100, 0);
    Check.is("the longest", x.time(200), 2000000L);
  }

  private static void timeRefusesOutOfRange() {
    Doc.says(34, "Throws `IllegalArgumentException` if it is out of range");
    for (int row : new int[] {-1, 201, 202, -200, 256, MIN, MAX}) {
      Studio.refuses(Studio.ANY, Check.ARGUMENT, "time " + row, x -> x.time(row));
    }
  }

  private static void checksumIs7AtFirst() {
    Doc.says(35, "Returns 7 at first, then for each roll and each hole, by rows, then tracks, 31 times "
        + "itself plus 16 times the row plus the track; then for each sounding 31 times itself plus the "
        + "note, then likewise plus the first row, then likewise plus the loudness.");
    Check.is("without rolls", new Perforatum().checksum(), 7L);
    Perforatum x = Studio.withRolls(4);
    Check.is("without holes", x.checksum(), 7L);
    x.note(0, 1, 0);
    Check.is("music is no matter", x.checksum(), 7L);
    x.punch(0, 0, 0, true);
    Check.is("the first hole of all", x.checksum(), 217L);
    x.punch(0, 0, 0, false);
    x.punch(3, 199, 15, true);
    Check.is("the last hole of all", x.checksum(), 217L + 3199L);
  }

  private static void checksumGoesByRowsThenTracks() {
    Doc.says(35, "`long checksum()`: Returns a sum over all.");
    Perforatum x = Studio.withRolls(2);
    x.punch(1, 0, 1, true);
    x.punch(0, 7, 0, true);
    x.punch(0, 2, 15, true);
    x.punch(0, 2, 3, true);
    long sum = 7;
    for (int hole : new int[] {2 * 16 + 3, 2 * 16 + 15, 7 * 16, 1}) {
      sum = 31 * sum + hole;
    }
    Check.is("in order", x.checksum(), sum);
  }

  private static void checksumWrapsAround() {
    Doc.says(35, "`long checksum()`: Returns a sum over all.");
    Perforatum x = Studio.withRolls(4);
    BigInteger sum = BigInteger.valueOf(7);
    for (int roll = 0; roll < 4; roll++) {
      for (int row = 1; row < 200; row += 3) {
        x.punch(roll, row, (row + roll) % 16, true);
        int hole = 16 * row + (row + roll) % 16;
        sum = sum.multiply(BigInteger.valueOf(31)).add(BigInteger.valueOf(hole));
        if (roll == 0 && row < 61) {
          Check.is("after row " + row, x.checksum(), sum.longValue());
        }
      }
    }
    Check.is("far beyond a long", sum.bitLength() > 1000, true);
    Check.is("all", x.checksum(), sum.longValue());
  }

  private static void checksumTakesSoundings() {
    Doc.says(35, "`long checksum()`: Returns a sum over all.");
    Perforatum x = Studio.withHoles(11, 0);
    x.punch(0, 2, 0, true);
    x.roll();
    x.load(0);
    long holes = (31L * 7 + 11) * 31 + 32;
    Check.is("none yet", x.checksum(), holes);
    x.tick(1);
    long one = ((holes * 31 + 11) * 31 + 0) * 31 + 42;
    Check.is("one", x.checksum(), one);
    x.tick(100);
    Check.is("two", x.checksum(), ((one * 31 + 0) * 31 + 2) * 31 + 980 / 70);
    x.load(1);
    Check.is("none of an empty roll", x.checksum(), holes);
  }

  private static void shareOfNoneAndAll() {
    Doc.says(36, "Returns the number of soundings, those not kept too, divided by that of openings, "
        + "both converted to float.");
    Perforatum x = Studio.withHoles(0, 0, 4);
    x.punch(0, 4, 1, true);
    x.load(0);
    x.tick(1);
    Check.is("one of one", x.heardShare(), 1f);
    x.set('l', 999);
    x.use(0, 99);
    x.set('p', 0);
    x.tick(100);
    Check.is("one of three", x.heardShare(), 1f / 3f);
    Check.is("kept behind the end", x.heardShare(), 1f / 3f);
    x.set('k', 99);
    x.punch(0, 0, 0, false);
    x.load(0);
    x.tick(100);
    Check.is("none of two", x.heardShare(), 0f);
  }

  private static void shareRefusesNoOpenings() {
    Doc.says(36, "Throws `ArithmeticException` if there were no openings");
    Studio.Start loaded = () -> {
      Perforatum x = Studio.busy();
      x.load(0);
      return x;
    };
    Studio.Start onlyPedal = () -> {
      Perforatum x = Studio.withRun(12, 0, 3);
      x.load(0);
      x.tick(100);
      return x;
    };
    Studio.refuses(List.of(Studio.EMPTY, loaded, onlyPedal, () -> Studio.withHoles(0, 0)),
        Check.ARITHMETIC, "heardShare", x -> x.heardShare());
  }

  private static void meanOfOneAndMany() {
    Doc.says(37, "Returns the sum divided by their number, both converted to double.");
    Perforatum x = Studio.withHoles(0, 0, 1);
    x.punch(0, 1, 5, true);
    x.load(0);
    x.tick(1);
    Check.is("of one", x.meanLoud(), 42.0);
    x.tick(100);
    Check.is("of two", x.meanLoud(), 70.0 / 2.0);
    x.punch(0, 1, 6, true);
    x.load(0);
    x.tick(100);
    Check.is("of three", x.meanLoud(), 98.0 / 3.0);
  }

  private static void meanRefusesNone() {
    Doc.says(37, "Throws `ArithmeticException` if there are none");
    Studio.Start silent = () -> {
      Perforatum x = Studio.withHoles(0, 0);
      x.valve(0, 5, 0);
      x.load(0);
      x.tick(100);
      return x;
    };
    Studio.refuses(List.of(Studio.EMPTY, silent, () -> Studio.withHoles(0, 0)), Check.ARITHMETIC,
        "meanLoud", x -> x.meanLoud());
  }

  private static void everyStudioIsSound() {
    Doc.says(38, "`boolean isSound()`: Checks the studio.");
    for (Studio.Start start : Studio.ANY) {
      Perforatum x = start.make();
      Check.is("as it is", x.isSound(), true);
      while (x.isPlaying()) {
        x.tick(1);
        Check.is("playing", x.isSound(), true);
      }
      Check.is("behind the end", x.isSound(), true);
    }
    Perforatum y = Studio.withRun(12, 0, 199);
    Studio.punchAt(y, 0, 0, 2, 4, 6, 8, 199);
    y.set('g', 0);
    y.load(0);
    y.tick(100);
    Check.is("each sounds anew while the one ahead rings on", y.isSound(), true);
    Check.is("five of them", y.soundings(), 5);
    y.tick(100);
    Check.is("up to the last row", y.sounding(4, 'l'), 198);
    Check.is("one row at the end", y.sounding(5, 'f'), 199);
    Check.is("all of them", y.isSound(), true);
  }

  private static void arrangedIsTheMusicTillChanged() {
    Doc.says(38, "Returns whether of each note no two soundings are heard in one row, each begins at its "
        + "opening or behind it, and ends at its first row or behind it; and what was arranged last, if "
        + "its roll and the music were not changed since, is the music, scanned.");
    Perforatum x = Studio.withRolls(2);
    x.arrange(0, true);
    Check.is("no music", x.isSound(), true);
    Studio.typeForty(x);
    Check.is("typed behind it", x.isSound(), true);
    for (int roll = 0; roll < 2; roll++) {
      x.arrange(roll, true);
      Check.is("arranged", x.isSound(), true);
      x.punch(roll, 30, 12, true);
      Check.is("the pedal behind it", x.isSound(), true);
      x.punch(roll, 60, 0, true);
      Check.is("punched behind it", x.isSound(), true);
      x.arrange(roll, true);
      x.punch(roll, 0, 0, false);
      Check.is("mended behind it", x.isSound(), true);
    }
    x.arrange(0, false);
    x.punch(1, 100, 11, false);
    Check.is("the other roll changed", x.isSound(), true);
    x.wipe();
    Check.is("wiped behind it", x.isSound(), true);
    x.arrange(1, false);
    Check.is("arranged without music", x.isSound(), true);
  }

  private static void refusedCallsKeepTheArrangement() {
    Doc.says("Exceptions. A method that throws an exception changes nothing.");
    Perforatum x = Studio.full();
    Check.refuses("note", Check.STATE, () -> x.note(186, 14, 4));
    Check.refuses("arrange", Check.INDEX, () -> x.arrange(4, true));
    Check.refuses("punch", Check.ARGUMENT, () -> x.punch(3, 200, 0, true));
    Check.is("still the music", x.isMusic(3), true);
    Check.is("sound", x.isSound(), true);
    Check.is("all 40 are kept", x.wipe(), 40);
  }

  private static void lastOf512CallsIsRight() {
    Perforatum x = Studio.withRolls(1);
    for (int i = 0; i < 510; i++) {
      Check.is("call " + i, x.punch(0, i % 200, i / 200, true), false);
    }
    Check.is("the 512th call", x.punch(0, 199, 15, true), false);
    Perforatum y = Studio.withHoles(0, 0, 3);
    for (int i = 0; i < 127; i++) {
      y.load(0);
      y.tick(4);
      Check.is("played again and again", y.soundings(), 2);
      Check.is("as the first time", y.sounding(1, 'l'), 3);
    }
    long sum = 7;
    for (int added : new int[] {0, 48, 0, 0, 42, 0, 3, 14}) {
      sum = 31 * sum + added;
    }
    Check.is("the last one", y.checksum(), sum);
  }
}
