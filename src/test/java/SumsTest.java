/** Promises 33 to 38. */
public final class SumsTest {
  public static void main(String[] args) {
    speedTells();
    timeSumsRows();
    checksumGoesOverAll();
    shareCountsOpenings();
    meanIsOfKeptOnes();
    studioIsSound();
    Check.end("SumsTest");
  }

  private static void speedTells() {
    Perforatum x = new Perforatum();
    Check.is("speed", x.speed(900, 0), 400);
    Check.is("speed again", x.speed(100, 50), 900);
    int[][] wrong = {{99, 0}, {901, 0}, {100, -1}, {100, 51}};
    for (int[] w : wrong) {
      Check.refuses("speed", Check.ARGUMENT, () -> x.speed(w[0], w[1]));
    }
    Check.is("nothing was changed", x.time(2), 10000L + 9523L);
    Check.is("the first one is kept", x.speed(400, 0), 100);
  }

  private static void timeSumsRows() {
    Perforatum x = new Perforatum();
    Check.is("time(0)", x.time(0), 0L);
    Check.is("time(1)", x.time(1), 2500L);
    Check.is("time(200)", x.time(200), 500000L);
    Check.refuses("time(-1)", Check.ARGUMENT, () -> x.time(-1));
    Check.refuses("time(201)", Check.ARGUMENT, () -> x.time(201));
    x.speed(333, 3);
    // Speeds 333, 333, 333, 333, 334: behind row 4 the growth is 1.2, cut.
    Check.is("time(5)", x.time(5), 4L * 3003L + 2994L);
    x.speed(900, 50);
    Check.is("time(1) fast", x.time(1), 1111L);
  }

  private static void checksumGoesOverAll() {
    Perforatum x = new Perforatum();
    x.roll();
    Check.is("without holes", x.checksum(), 7L);
    x.punch(0, 3, 4, true);
    long sum = 31L * 7 + 16 * 3 + 4;
    Check.is("one hole", x.checksum(), sum);
    x.punch(0, 3, 2, true);
    x.punch(0, 1, 5, true);
    sum = 31L * 7 + 16 + 5;
    sum = 31 * sum + 16 * 3 + 2;
    sum = 31 * sum + 16 * 3 + 4;
    Check.is("by rows, then tracks", x.checksum(), sum);
    x.roll();
    x.punch(1, 199, 15, true);
    sum = 31 * sum + 16 * 199 + 15;
    Check.is("the next roll", x.checksum(), sum);
    x.load(0);
    x.tick(4);
    int[][] soundings = {{5, 1, 1000 / 70 * 2}, {2, 3, 14}, {4, 3, 14}};
    for (int[] s : soundings) {
      sum = 31 * sum + s[0];
      sum = 31 * sum + s[1];
      sum = 31 * sum + s[2];
    }
    Check.is("the soundings", x.checksum(), sum);
  }

  private static void shareCountsOpenings() {
    Perforatum x = new Perforatum();
    Check.refuses("never loaded", Check.ARITHMETIC, x::heardShare);
    x.roll();
    x.punch(0, 1, 0, true);
    x.punch(0, 1, 1, true);
    x.punch(0, 1, 2, true);
    x.valve(2, 5, 0);
    x.load(0);
    x.tick(1);
    Check.refuses("no openings yet", Check.ARITHMETIC, x::heardShare);
    x.tick(1);
    Check.is("two of three", x.heardShare(), 2f / 3f);
    Check.is("isPlaying", x.isPlaying(), false);
    x.set('l', 999);
    x.valve(0, 3, 0);
    x.valve(1, 3, 0);
    x.load(0);
    x.tick(2);
    Check.is("none of three", x.heardShare(), 0f);
  }

  private static void meanIsOfKeptOnes() {
    Perforatum x = new Perforatum();
    Check.refuses("none", Check.ARITHMETIC, x::meanLoud);
    x.roll();
    x.punch(0, 0, 0, true);
    x.punch(0, 1, 1, true);
    x.punch(0, 1, 2, true);
    x.load(0);
    Check.refuses("none yet", Check.ARITHMETIC, x::meanLoud);
    x.tick(2);
    // Levels 2 and 1: 42, and twice 28.
    Check.is("mean", x.meanLoud(), 98.0 / 3.0);
  }

  private static void studioIsSound() {
    Perforatum x = new Perforatum();
    x.roll();
    Check.is("at first", x.isSound(), true);
    x.note(3, 8, 2);
    x.note(20, 60, 2);
    x.arrange(0, true);
    Check.is("arranged", x.isSound(), true);
    x.punch(0, 100, 2, true);
    Check.is("its roll was changed", x.isSound(), true);
    x.arrange(0, false);
    x.note(120, 2, 3);
    Check.is("the music was changed", x.isSound(), true);
    x.wipe();
    Check.is("wiped", x.isSound(), true);
    x.load(0);
    x.tick(30);
    Check.is("playing", x.isSound(), true);
    x.tick(100);
    Check.is("played", x.isSound(), true);
  }
}
