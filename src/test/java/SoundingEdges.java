import java.util.List;

/** The edges of promises 28 to 32: valves open and close, and what is heard of them. */
final class SoundingEdges {
  private static final int MIN = Integer.MIN_VALUE;
  private static final int MAX = Integer.MAX_VALUE;
  private static final int[] NO_NOTES = {-1, 12, 13, 15, 16, -12, MIN, MAX};
  private static final int[] NO_INDEXES = {-1, 300, 301, -300, 512, MIN, MAX};

  private SoundingEdges() {}

  static void run() {
    valveIsOpenByAnyOfItsHoles();
    gapTellsTheRowsWithout();
    openingIsKeptOverTheGap();
    soundsAtOpeningAndDelay();
    soundsBehindTheLastClosingAndRest();
    neverClosedHasNoRest();
    soundsAtTheLeastSuction();
    soundsWithoutSuction();
    soundsOncePerOpening();
    loudnessIsCut();
    closingEndsWithoutThePedal();
    pedalDownAsItCloses();
    ringEndsAsThePedalGoesUp();
    ringEndsAsItSoundsAnew();
    ringNeedsASounding();
    isOpenOfNotes0To11();
    isOpenRefusesWithoutPlaying();
    isOpenRefusesNoSuchNote();
    isOpenRefusesWithoutPlayingFirst();
    isHeardOfNotes0To11();
    isHeardRefusesWithoutPlaying();
    isHeardRefusesNoSuchNote();
    isHeardRefusesWithoutPlayingFirst();
    soundingsCountFromNone();
    threeHundredAreKept();
    furtherOnesSound();
    fullStudioForgetsThemAsItLoads();
    soundingsAreInOrder();
    lastIsMinus1AsLongAsHeard();
    soundingRefusesNoSuchThing();
    soundingRefusesNoSuchSounding();
    soundingRefusesNoSuchThingFirst();
    loudestIsTheFirstOfSeveral();
    loudestRefusesNone();
  }

  private static void dueSounding(
      Perforatum x, int index, int note, int opening, int first, int last) {
    Check.is("note of " + index, x.sounding(index, 'n'), note);
    Check.is("opening of " + index, x.sounding(index, 'o'), opening);
    Check.is("first row of " + index, x.sounding(index, 'f'), first);
    Check.is("last row of " + index, x.sounding(index, 'l'), last);
  }

  private static void valveIsOpenByAnyOfItsHoles() {
    Doc.says("Fourthly each valve, by notes: it is open if one of the holes that open it is read;");
    Perforatum x = Studio.withHoles(0, 0, 3);
    Studio.punchAt(x, 1, 1, 3);
    Studio.punchAt(x, 11, 2, 3);
    x.punch(0, 9, 15, true);
    x.borrow(0, 11);
    x.borrow(1, 11);
    x.set('g', 0);
    x.load(0);
    for (int row = 0; row < 6; row++) {
      x.tick(1);
      Check.is("open in row " + row, x.isOpen(11), row < 4);
      Check.is("not their own", x.isOpen(0) || x.isOpen(1), false);
    }
    Check.is("one opening", x.soundings(), 1);
    dueSounding(x, 0, 11, 0, 0, 3);
  }

  private static void gapTellsTheRowsWithout() {
    Doc.says("if it was open, it stays so for as many rows without one as the gap tells.");
    for (int gap = 0; gap <= 3; gap++) {
      for (int without = 1; without <= 4; without++) {
        Perforatum x = Studio.withHoles(4, 1, 2 + without);
        x.punch(0, 20, 15, true);
        x.set('g', gap);
        x.load(0);
        x.tick(2 + without);
        Check.is(without + " rows by the gap " + gap, x.isOpen(4), without <= gap);
        x.tick(1);
        Check.is("soundings by the gap " + gap, x.soundings(), without <= gap ? 1 : 2);
        for (int row = 0; row < gap; row++) {
          x.tick(1);
          Check.is("open to the last row of the gap", x.isOpen(4), true);
        }
        x.tick(1);
        Check.is("closed behind it", x.isOpen(4), false);
      }
    }
    Perforatum y = Studio.withHoles(4, 5);
    y.set('g', 3);
    y.load(0);
    y.tick(5);
    Check.is("no gap ahead of the first hole", y.isOpen(4), false);
  }

  private static void openingIsKeptOverTheGap() {
    Doc.says("As it opens, the row is kept as its opening.");
    Perforatum x = Studio.withHoles(4, 3, 5, 7, 9);
    x.valve(4, 5, 0);
    x.load(0);
    x.tick(100);
    dueSounding(x, 0, 4, 3, 8, 9);
    Check.is("one opening", x.heardShare(), 1f);
    x.set('g', 0);
    x.load(0);
    x.tick(100);
    Check.is("four openings, none long enough", x.heardShare(), 0f);
  }

  private static void soundsAtOpeningAndDelay() {
    Doc.says("It sounds, if it is open and does not sound, as soon as the row is at least "
        + "its opening and the delay,");
    for (int delay = 0; delay <= 5; delay++) {
      for (int length = 1; length <= 7; length++) {
        Perforatum x = Studio.withRun(4, 3, 2 + length);
        x.punch(0, 30, 15, true);
        x.set('g', 0);
        x.valve(4, delay, 9);
        x.load(0);
        x.tick(20);
        boolean isLong = length > delay;
        Check.is(length + " rows, delay " + delay, x.soundings(), isLong ? 1 : 0);
        if (isLong) {
          dueSounding(x, 0, 4, 3, 3 + delay, 2 + length);
        }
      }
    }
  }

  private static void soundsBehindTheLastClosingAndRest() {
    Doc.says("and at least the first row in which it was closed, the last time, and the rest,");
    Perforatum x = Studio.withHoles(4, 0, 2, 3);
    Studio.punchRun(x, 4, 7, 20);
    x.set('g', 0);
    x.valve(4, 0, 5);
    x.load(0);
    x.tick(100);
    // Closed in row 1, then first in row 4, also in 5 and 6.
    Check.is("none in the rest", x.soundings(), 2);
    dueSounding(x, 1, 4, 7, 9, 20);
    Perforatum y = Studio.withHoles(4, 0);
    Studio.punchRun(y, 4, 10, 20);
    y.set('g', 0);
    y.valve(4, 0, 9);
    y.load(0);
    y.tick(100);
    dueSounding(y, 1, 4, 10, 10, 20);
    y.punch(0, 9, 4, true);
    y.load(0);
    y.tick(100);
    dueSounding(y, 1, 4, 9, 10, 20);
    // With a gap it is closed later.
    y.set('g', 3);
    y.load(0);
    y.tick(100);
    dueSounding(y, 1, 4, 9, 13, 20);
  }

  private static void neverClosedHasNoRest() {
    Doc.says("and at least the first row in which it was closed, the last time, and the rest,");
    Perforatum x = Studio.withHoles(4, 0, 1);
    x.punch(0, 1, 5, true);
    x.valve(4, 0, 9);
    x.valve(5, 0, 9);
    x.load(0);
    x.tick(100);
    dueSounding(x, 0, 4, 0, 0, 1);
    dueSounding(x, 1, 5, 1, 1, 1);
  }

  private static void soundsAtTheLeastSuction() {
    Doc.says("and the suction is at least the least one;");
    for (int leak = 0; leak <= 3; leak++) {
      Perforatum x = Studio.withRun(4, 1, 3);
      x.set('p', 0);
      x.set('k', leak);
      x.set('l', 999);
      x.load(0);
      x.tick(100);
      Check.is("suction " + (1000 - leak), x.soundings(), leak <= 1 ? 1 : 0);
    }
    Perforatum y = Studio.withRun(4, 1, 9);
    y.set('k', 50);
    y.set('p', 0);
    y.use(4, 0);
    y.set('l', 951);
    y.load(0);
    y.tick(2);
    Check.is("950", y.isHeard(4), false);
    y.set('p', 51);
    y.tick(1);
    Check.is("900", y.isHeard(4), false);
    y.set('k', 1);
    y.tick(1);
    Check.is("901", y.isHeard(4), false);
    y.tick(1);
    Check.is("951", y.isHeard(4), true);
    y.set('l', 999);
    y.tick(1);
    Check.is("it goes on with less", y.isHeard(4), true);
    dueSounding(y, 0, 4, 1, 4, -1);
  }

  private static void soundsWithoutSuction() {
    Doc.says("a least suction, 0 to 999, 0 at first;");
    Perforatum x = Studio.withRolls(1);
    for (int note = 0; note < 11; note++) {
      x.note(0, 3, note);
      x.use(note, 99);
    }
    x.note(1, 1, 11);
    x.arrange(0, false);
    x.set('p', 0);
    x.load(0);
    x.tick(1);
    Check.is("no suction", x.suction(), 0);
    x.tick(1);
    Check.is("it sounds", x.isHeard(11), true);
    Check.is("not loud", x.sounding(11, 'v'), 0);
    x.load(0);
    x.tick(1);
    x.set('l', 1);
    x.tick(1);
    Check.is("it needs more", x.isHeard(11), false);
  }

  private static void soundsOncePerOpening() {
    Doc.says("It sounds, if it is open and does not sound");
    Perforatum x = Studio.withRun(4, 0, 199);
    x.load(0);
    x.tick(100);
    x.valve(4, 5, 9);
    x.tick(100);
    Check.is("one sounding of all rows", x.soundings(), 1);
    dueSounding(x, 0, 4, 0, 0, 199);
  }

  private static int loudnessBy(int pump, int leak, boolean isLatched) {
    Perforatum x = Studio.withHoles(4, 3);
    x.punch(0, 0, isLatched ? 13 : 14, true);
    x.set('p', pump);
    x.set('k', leak);
    x.load(0);
    x.tick(100);
    return x.sounding(0, 'v');
  }

  private static void loudnessIsCut() {
    Doc.says("as loud as the suction times one more than the level, divided by 70, cut.");
    // The level behind three rows more is 6 or 0.
    Check.is("7000", loudnessBy(0, 0, true), 100);
    Check.is("7 times 997", loudnessBy(0, 1, true), 99);
    Check.is("7 times 991", loudnessBy(0, 3, true), 99);
    Check.is("7 times 988", loudnessBy(0, 4, true), 98);
    Check.is("1000", loudnessBy(0, 0, false), 14);
    Check.is("982", loudnessBy(0, 6, false), 14);
    Check.is("979", loudnessBy(0, 7, false), 13);
    Perforatum x = Studio.withHoles(4, 0);
    x.load(0);
    x.tick(1);
    Check.is("the level of this row, the suction ahead of it", x.sounding(0, 'v'), 42);
  }

  private static void closingEndsWithoutThePedal() {
    Doc.says("As it closes, it ends sounding;");
    Doc.says("its last row, that ahead of which it ended,");
    for (int gap = 0; gap <= 3; gap++) {
      Perforatum x = Studio.withRun(4, 2, 3);
      x.punch(0, 30, 15, true);
      x.set('g', gap);
      x.load(0);
      x.tick(4 + gap);
      Check.is("heard in its last row", x.isHeard(4), true);
      dueSounding(x, 0, 4, 2, 2, -1);
      x.tick(1);
      Check.is("not behind it", x.isHeard(4), false);
      dueSounding(x, 0, 4, 2, 2, 3 + gap);
    }
  }

  private static void pedalDownAsItCloses() {
    Doc.says("Thirdly the pedal is down if there is a hole at 12.");
    Doc.says("with the pedal down it rings on,");
    for (int pedal = 1; pedal <= 4; pedal++) {
      Perforatum x = Studio.withRun(4, 0, 1);
      x.punch(0, pedal, 12, true);
      x.punch(0, 9, 15, true);
      x.set('g', 0);
      x.load(0);
      x.tick(9);
      // It closes in row 2: only a pedal that is down then lets it ring on.
      dueSounding(x, 0, 4, 0, 0, pedal == 2 ? 2 : 1);
      Check.is("no other one", x.soundings(), 1);
    }
  }

  private static void ringEndsAsThePedalGoesUp() {
    Doc.says(", till the pedal is up or it sounds anew.");
    for (int last = 2; last <= 8; last++) {
      Perforatum x = Studio.withRun(4, 0, 1);
      Studio.punchRun(x, 12, 2, last);
      x.punch(0, last + 3, 12, true);
      x.set('g', 0);
      x.load(0);
      x.tick(last + 1);
      Check.is("rings on to row " + last, x.isHeard(4) && !x.isOpen(4), true);
      Check.is("still heard", x.sounding(0, 'l'), -1);
      x.tick(1);
      Check.is("not behind it", x.isHeard(4), false);
      x.tick(2);
      dueSounding(x, 0, 4, 0, 0, last);
    }
    Perforatum y = Studio.withRun(4, 0, 5);
    y.punch(0, 3, 12, true);
    y.load(0);
    y.tick(5);
    Check.is("the pedal goes up while it is open", y.isHeard(4), true);
  }

  private static void ringEndsAsItSoundsAnew() {
    Doc.says(", till the pedal is up or it sounds anew.");
    Perforatum x = Studio.withRun(4, 0, 3);
    Studio.punchRun(x, 4, 6, 12);
    Studio.punchRun(x, 12, 0, 12);
    x.set('g', 0);
    x.valve(4, 3, 0);
    x.load(0);
    x.tick(9);
    Check.is("open anew, but rings on still", x.isOpen(4) && x.isHeard(4), true);
    dueSounding(x, 0, 4, 0, 3, -1);
    Check.is("no other one yet", x.soundings(), 1);
    x.tick(1);
    dueSounding(x, 0, 4, 0, 3, 8);
    dueSounding(x, 1, 4, 6, 9, -1);
    // The pedal goes up in the very row.
    x.punch(0, 9, 12, false);
    x.load(0);
    x.tick(10);
    dueSounding(x, 0, 4, 0, 3, 8);
    dueSounding(x, 1, 4, 6, 9, -1);
    // The pedal goes up ahead of it, while the valve is open already.
    x.punch(0, 7, 12, false);
    x.load(0);
    x.tick(8);
    Check.is("open, but silent", x.isOpen(4) && !x.isHeard(4), true);
    dueSounding(x, 0, 4, 0, 3, 6);
  }

  private static void ringNeedsASounding() {
    Doc.says("As it closes, it ends sounding; with the pedal down it rings on");
    Perforatum x = Studio.withRun(4, 0, 1);
    Studio.punchRun(x, 12, 0, 9);
    x.set('g', 0);
    x.valve(4, 2, 0);
    x.load(0);
    x.tick(2);
    Check.is("open, but not heard", x.isOpen(4) && !x.isHeard(4), true);
    x.tick(1);
    Check.is("nothing rings on", x.isHeard(4), false);
    Check.is("no sounding", x.soundings(), 0);
  }

  private static void isOpenOfNotes0To11() {
    Doc.says(28, Doc.NOTE);
    for (int open = 0; open < 12; open++) {
      Perforatum x = Studio.withRun(open, 0, 3);
      x.load(0);
      Check.is("not yet " + open, x.isOpen(open), false);
      x.tick(1);
      for (int note = 0; note < 12; note++) {
        Check.is("open " + note, x.isOpen(note), note == open);
      }
    }
  }

  private static void isOpenRefusesWithoutPlaying() {
    Doc.says(28, Doc.NOT_PLAYED);
    for (int note : new int[] {0, 5, 11}) {
      Studio.refuses(Studio.SILENT, Check.STATE, "isOpen", x -> x.isOpen(note));
    }
  }

  private static void isOpenRefusesNoSuchNote() {
    Doc.says(28, Doc.NO_NOTE);
    for (int note : NO_NOTES) {
      Studio.refuses(Studio.PLAYING, Check.INDEX, "isOpen " + note, x -> x.isOpen(note));
    }
  }

  private static void isOpenRefusesWithoutPlayingFirst() {
    Doc.says(Doc.FIRST);
    for (int note : NO_NOTES) {
      Studio.refuses(Studio.SILENT, Check.STATE, "isOpen " + note, x -> x.isOpen(note));
    }
  }

  private static void isHeardOfNotes0To11() {
    Doc.says(29, Doc.NOTE);
    for (int heard = 0; heard < 12; heard++) {
      Perforatum x = Studio.withRun(heard, 0, 1);
      x.punch(0, 2, 12, true);
      x.punch(0, 9, 15, true);
      x.set('g', 0);
      x.valve(heard, 1, 0);
      x.load(0);
      for (int row = -1; row < 5; row++) {
        for (int note = 0; note < 12; note++) {
          boolean isDue = note == heard && (row == 1 || row == 2);
          Check.is("heard behind row " + row, x.isHeard(note), isDue);
        }
        x.tick(1);
      }
    }
  }

  private static void isHeardRefusesWithoutPlaying() {
    Doc.says(29, Doc.NOT_PLAYED);
    for (int note : new int[] {0, 5, 11}) {
      Studio.refuses(Studio.SILENT, Check.STATE, "isHeard", x -> x.isHeard(note));
    }
  }

  private static void isHeardRefusesNoSuchNote() {
    Doc.says(29, Doc.NO_NOTE);
    for (int note : NO_NOTES) {
      Studio.refuses(Studio.PLAYING, Check.INDEX, "isHeard " + note, x -> x.isHeard(note));
    }
  }

  private static void isHeardRefusesWithoutPlayingFirst() {
    Doc.says(Doc.FIRST);
    for (int note : NO_NOTES) {
      Studio.refuses(Studio.SILENT, Check.STATE, "isHeard " + note, x -> x.isHeard(note));
    }
  }

  private static void soundingsCountFromNone() {
    Doc.says("A sounding has a note, its opening, its first row,");
    Doc.says(", and its loudness;");
    Perforatum x = Studio.withHoles(4, 1, 5);
    Check.is("none in an empty studio", new Perforatum().soundings(), 0);
    Check.is("none ahead of loading", x.soundings(), 0);
    x.load(0);
    Check.is("none as it is loaded", x.soundings(), 0);
    x.tick(1);
    Check.is("none ahead of the first", x.soundings(), 0);
    x.tick(1);
    Check.is("one", x.soundings(), 1);
    x.tick(100);
    Check.is("two, kept behind the end", x.soundings(), 2);
    x.load(0);
    Check.is("none of the roll before", x.soundings(), 0);
  }

  /** 299 soundings up to row 101; in row 102 the notes 0 to 11 begin at once. */
  private static Perforatum withMany() {
    Perforatum x = Studio.withRolls(2);
    for (int pitch = 0; pitch < 12; pitch++) {
      x.note(0, pitch == 11 ? 55 : 60, pitch);
      x.note(62, 60, pitch);
    }
    x.arrange(0, true);
    x.set('g', 0);
    x.load(0);
    x.tick(100);
    x.tick(2);
    return x;
  }

  private static void threeHundredAreKept() {
    Doc.says("at most 300 are kept, further ones are not");
    Perforatum x = withMany();
    Check.is("one less than 300", x.soundings(), 299);
    Check.refuses("not yet", Check.ELEMENT, () -> x.sounding(299, 'n'));
    x.tick(1);
    Check.is("300", x.soundings(), 300);
    dueSounding(x, 298, 11, 98, 98, 100);
    dueSounding(x, 299, 0, 102, 102, -1);
    Check.refuses("no 301st", Check.ELEMENT, () -> x.sounding(300, 'n'));
    x.tick(3);
    dueSounding(x, 299, 0, 102, 102, 104);
    x.tick(100);
    Check.is("still 300", x.soundings(), 300);
    dueSounding(x, 0, 0, 0, 0, 2);
    dueSounding(x, 299, 0, 102, 102, 104);
  }

  private static void furtherOnesSound() {
    Doc.says(", though they sound.");
    Perforatum x = withMany();
    x.tick(1);
    for (int note = 0; note < 12; note++) {
      Check.is("heard " + note, x.isHeard(note), true);
    }
    Check.is("counted", x.heardShare(), 1f);
    long sum = x.checksum();
    int loudest = x.loudest();
    double mean = x.meanLoud();
    x.tick(1);
    x.tick(2);
    for (int note = 0; note < 12; note++) {
      Check.is("ended " + note, x.isHeard(note), false);
    }
    x.tick(1);
    Check.is("anew", x.isHeard(11), true);
    Check.is("no sum over them", x.checksum(), sum);
    Check.is("no loudest of them", x.loudest(), loudest);
    Check.is("no mean of them", x.meanLoud(), mean);
    Check.is("in order", x.isSound(), true);
    x.set('l', 999);
    x.set('k', 99);
    x.tick(4);
    // 299 and three times 12 openings; the last 12 of them in silence.
    Check.is("counted, too", x.heardShare(), (float) 323 / (float) 335);
  }

  private static void fullStudioForgetsThemAsItLoads() {
    Doc.says(30, "Returns how many.");
    Perforatum x = withMany();
    x.tick(100);
    x.load(0);
    Check.is("none", x.soundings(), 0);
    x.tick(1);
    Check.is("room anew", x.soundings(), 12);
    dueSounding(x, 11, 11, 0, 0, -1);
    Check.is("load an empty one", x.load(1), 0);
    Check.is("none, too", x.soundings(), 0);
    Check.refuses("no loudest", Check.ELEMENT, x::loudest);
  }

  private static void soundingsAreInOrder() {
    Doc.says(31, "- `index`: the index, from 0, in the order in which they began, of like ones by notes");
    Perforatum x = Studio.withRun(0, 0, 9);
    Studio.punchRun(x, 11, 0, 9);
    Studio.punchRun(x, 3, 1, 9);
    Studio.punchRun(x, 5, 3, 9);
    x.valve(0, 3, 0);
    x.load(0);
    x.tick(100);
    dueSounding(x, 0, 11, 0, 0, 9);
    dueSounding(x, 1, 3, 1, 1, 9);
    dueSounding(x, 2, 0, 0, 3, 9);
    dueSounding(x, 3, 5, 3, 3, 9);
  }

  private static void lastIsMinus1AsLongAsHeard() {
    Doc.says(31, "- `what`: 'n' the note, 'o' its opening, 'f' the first row, 'l' the last one, "
        + "-1 as long as it is heard, 'v' the loudness");
    Perforatum x = Studio.withHoles(4, 0);
    x.punch(0, 9, 15, true);
    x.punch(0, 1, 12, true);
    x.punch(0, 2, 12, true);
    x.set('g', 0);
    x.load(0);
    int[] due = {-1, -1, -1, 2, 2};
    for (int row = 0; row < due.length; row++) {
      x.tick(1);
      Check.is("last row behind row " + row, x.sounding(0, 'l'), due[row]);
    }
    Perforatum y = Studio.withHoles(4, 0);
    y.load(0);
    y.tick(1);
    Check.is("ended behind the last row", y.sounding(0, 'l'), 0);
  }

  private static void soundingRefusesNoSuchThing() {
    Doc.says(31, "Throws `IllegalArgumentException` if there is no such thing");
    for (char what = 0; what < 512; what++) {
      char w = what;
      if ("noflv".indexOf(w) < 0) {
        Perforatum x = Studio.withHoles(0, 0);
        x.load(0);
        x.tick(1);
        Check.refuses("sounding " + (int) w, Check.ARGUMENT, () -> x.sounding(0, w));
      }
    }
    for (char what : new char[] {'N', 'p', 0, (char) ('n' + 256), Character.MAX_VALUE}) {
      Studio.refuses(Studio.ANY, Check.ARGUMENT, "sounding", x -> x.sounding(0, what));
    }
  }

  private static void soundingRefusesNoSuchSounding() {
    Doc.says(31, "Throws `NoSuchElementException` if there is no such sounding");
    for (char what : new char[] {'n', 'o', 'f', 'l', 'v'}) {
      Studio.refuses(List.of(Studio.EMPTY), Check.ELEMENT, "sounding", x -> x.sounding(0, what));
      for (int index : NO_INDEXES) {
        Studio.refuses(Studio.ANY, Check.ELEMENT, "sounding", x -> x.sounding(index, what));
      }
      Perforatum x = Studio.withHoles(0, 0, 9);
      x.load(0);
      x.tick(100);
      Check.refuses("the next one", Check.ELEMENT, () -> x.sounding(2, what));
      Check.is("the last one", x.sounding(1, what) >= 0, true);
      x.load(0);
      Check.refuses("none as it is loaded", Check.ELEMENT, () -> x.sounding(0, what));
      Check.is("the 300th of 300", Studio.full().sounding(299, what) >= 0, true);
    }
  }

  private static void soundingRefusesNoSuchThingFirst() {
    Doc.says(Doc.FIRST);
    Studio.refuses(Studio.ANY, Check.ARGUMENT, "sounding", x -> x.sounding(-1, 'p'));
    Studio.refuses(Studio.ANY, Check.ARGUMENT, "sounding", x -> x.sounding(300, 'x'));
  }

  private static void loudestIsTheFirstOfSeveral() {
    Doc.says(32, "Returns its index.");
    Perforatum x = Studio.withHoles(0, 0);
    Studio.punchAt(x, 1, 0);
    x.maker('c');
    Studio.punchAt(x, 13, 5);
    x.punch(0, 5, 7, true);
    x.punch(0, 5, 9, true);
    x.punch(0, 9, 2, true);
    x.load(0);
    x.tick(1);
    Check.is("of two the first", x.loudest(), 0);
    x.tick(5);
    Check.is("louder ones, the first of them", x.loudest(), 2);
    x.tick(100);
    Check.is("none louder behind them", x.loudest(), 2);
    Perforatum y = Studio.withHoles(4, 3);
    y.punch(0, 0, 13, true);
    y.load(0);
    y.tick(100);
    Check.is("of one", y.loudest(), 0);
    y.punch(0, 4, 5, true);
    y.set('p', 0);
    y.set('k', 9);
    y.load(0);
    y.tick(100);
    Check.is("of two, the first is louder", y.loudest(), 0);
    y.punch(0, 3, 4, false);
    y.punch(0, 0, 4, true);
    y.load(0);
    y.tick(100);
    Check.is("of two, the second is louder", y.loudest(), 1);
    Perforatum z = withMany();
    z.tick(1);
    Check.is("of 300", z.loudest(), 0);
  }

  private static void loudestRefusesNone() {
    Doc.says(32, "Throws `NoSuchElementException` if there is none");
    Studio.Start loaded = () -> {
      Perforatum x = Studio.busy();
      x.load(1);
      return x;
    };
    Studio.refuses(List.of(Studio.EMPTY, loaded, () -> Studio.withHoles(3, 3)), Check.ELEMENT,
        "loudest", x -> x.loudest());
  }
}
