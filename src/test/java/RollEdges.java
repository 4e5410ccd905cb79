import java.util.List;

/** The edges of promises 1 to 9: the studio at first, rolls and their holes. */
final class RollEdges {
  private static final int MIN = Integer.MIN_VALUE;
  private static final int MAX = Integer.MAX_VALUE;
  private static final String OUT = "Throws `IllegalArgumentException` if a number is out of range";
  private static final int[] NO_ROWS = {-1, 200, 201, -200, 255, 1 << 16, 1 << 28, MIN, MAX};
  private static final int[] NO_TRACKS = {-1, 16, 17, 31, 32, 44, -16, -32, MIN, MAX};
  private static final int[] NEVER_ROLLS = {-1, 4, 5, 256, MIN, MAX};

  private RollEdges() {}

  static void run() {
    newStudioIsEmpty();
    newStudioRefusesRolls();
    fourRollsAtMost();
    rollRefusesTheFifth();
    rowsAreFrom0To199();
    tracksAreFrom0To15();
    tracksHaveTheirMeanings();
    punchRefusesNoSuchRoll();
    punchRefusesNumbersOutOfRange();
    punchRefusesNoSuchRollFirst();
    holeRefusesNoSuchRoll();
    holeRefusesNumbersOutOfRange();
    holeRefusesNoSuchRollFirst();
    lengthIsOneMoreThanTheLastRow();
    lengthIs0WithoutHoles();
    lengthRefusesNoSuchRoll();
    holesCountsFromNoneToAll();
    holesRefusesNoSuchRoll();
    holesRefusesTracksOutOfRange();
    copyIsLikeTheEmptyAndTheFullOne();
    copyRefusesNoSuchRoll();
    copyRefusesTheFifth();
    copyRefusesNoSuchRollFirst();
    unlikeCountsFromNoneToAll();
    unlikeRefusesNoSuchRollForEither();
    parentIsTheFewestUnlike();
    parentIsTheLowestOfSeveral();
    parentRefusesNoSuchRoll();
    parentRefusesTheLowestRoll();
    parentRefusesNoSuchRollFirst();
  }

  private static void newStudioIsEmpty() {
    Doc.says(1, "`Perforatum()`: Creates a studio without rolls, music and playing.");
    Perforatum x = new Perforatum();
    Check.is("no playing", x.isPlaying(), false);
    Check.is("no soundings", x.soundings(), 0);
    Check.is("no holes", x.checksum(), 7L);
    Check.is("no music", x.wipe(), 0);
    Check.is("nothing arranged", x.isSound(), true);
    Check.is("no roll ahead of the first", x.roll(), 0);
  }

  private static void newStudioRefusesRolls() {
    Doc.says(1, "`Perforatum()`: Creates a studio without rolls, music and playing.");
    for (int r : new int[] {0, 1, 3, -1, MAX}) {
      noRoll(r, Studio.EMPTY);
    }
  }

  private static void noRoll(int r, Studio.Start start) {
    List<Studio.Start> starts = List.of(start);
    Studio.refuses(starts, Check.INDEX, "punch", x -> x.punch(r, 0, 0, true));
    Studio.refuses(starts, Check.INDEX, "hole", x -> x.hole(r, 0, 0));
    Studio.refuses(starts, Check.INDEX, "length", x -> x.length(r));
    Studio.refuses(starts, Check.INDEX, "holes", x -> x.holes(r, 0));
    Studio.refuses(starts, Check.INDEX, "copy", x -> x.copy(r));
    Studio.refuses(starts, Check.INDEX, "unlike", x -> x.unlike(r, r));
    Studio.refuses(starts, Check.INDEX, "parent", x -> x.parent(r));
    Studio.refuses(starts, Check.INDEX, "arrange", x -> x.arrange(r, true));
    Studio.refuses(starts, Check.INDEX, "scanned", x -> x.scanned(r));
    Studio.refuses(starts, Check.INDEX, "scan", x -> x.scan(r, 0, 'f'));
    Studio.refuses(starts, Check.INDEX, "isMusic", x -> x.isMusic(r));
    Studio.refuses(starts, Check.INDEX, "load", x -> x.load(r));
  }

  private static void fourRollsAtMost() {
    Doc.says("Rolls. At most 4 rolls are numbered from 0");
    Perforatum x = new Perforatum();
    for (int i = 0; i < 4; i++) {
      noRollYet(x, i);
      Check.is("roll()", x.roll(), i);
      Check.is("its length", x.length(i), 0);
    }
    noRollYet(x, 4);
  }

  private static void noRollYet(Perforatum x, int number) {
    Check.refuses("no roll " + number + " yet", Check.INDEX, () -> x.length(number));
  }

  private static void rollRefusesTheFifth() {
    Doc.says(2, "Throws `IllegalStateException` if there are 4");
    Studio.refuses(List.of(Studio.FULL, () -> Studio.withRolls(4)), Check.STATE,
        "a fifth roll", x -> x.roll());
    Perforatum x = Studio.withRolls(1);
    x.copy(0);
    x.copy(1);
    Check.is("copies count, and one has room", x.roll(), 3);
    Check.refuses("copies count", Check.STATE, x::roll);
  }

  private static void rowsAreFrom0To199() {
    Doc.says("each with rows from 0 to 199");
    Perforatum x = Studio.withRolls(1);
    for (int row : new int[] {0, 199}) {
      Check.is("punch row " + row, x.punch(0, row, 6, true), false);
      Check.is("hole row " + row, x.hole(0, row, 6), true);
      Check.is("mend row " + row, x.punch(0, row, 6, false), true);
      Check.is("no hole row " + row, x.hole(0, row, 6), false);
    }
    for (int row : NO_ROWS) {
      Check.refuses("punch row " + row, Check.ARGUMENT, () -> x.punch(0, row, 6, true));
      Check.refuses("hole row " + row, Check.ARGUMENT, () -> x.hole(0, row, 6));
    }
    Check.is("none was punched", x.length(0), 0);
  }

  private static void tracksAreFrom0To15() {
    Doc.says("and holes at tracks 0 to 15 of these");
    Perforatum x = Studio.withRolls(1);
    for (int track = 0; track < 16; track++) {
      Check.is("punch track " + track, x.punch(0, 9, track, true), false);
      for (int t = 0; t < 16; t++) {
        Check.is("hole track " + t, x.hole(0, 9, t), t <= track);
      }
    }
    for (int track : NO_TRACKS) {
      Check.refuses("punch track " + track, Check.ARGUMENT, () -> x.punch(0, 9, track, false));
      Check.refuses("hole track " + track, Check.ARGUMENT, () -> x.hole(0, 9, track));
    }
    for (int track = 0; track < 16; track++) {
      Check.is("not the row ahead", x.hole(0, 8, track), false);
      Check.is("not the row behind", x.hole(0, 10, track), false);
      Check.is("punched again", x.punch(0, 9, track, true), true);
    }
  }

  private static void tracksHaveTheirMeanings() {
    Doc.says("the tracks 0 to 11 are those of the notes, 12 that of the pedal, "
        + "13 and 14 those of the code");
    for (int track = 0; track < 16; track++) {
      Perforatum x = Studio.withHoles(track, 0);
      x.punch(0, 40, 15, true);
      x.maker('c');
      Check.is("scanned at " + track, x.scanned(0), track < 12 ? 1 : 0);
      x.load(0);
      x.tick(1);
      for (int note = 0; note < 12; note++) {
        Check.is("hole " + track + " note " + note, x.isOpen(note), note == track);
        Check.is("hole " + track + " heard " + note, x.isHeard(note), note == track);
      }
      Check.is("level by " + track, x.level(), track == 13 ? 5 : track == 14 ? 1 : 3);
    }
  }

  private static void punchRefusesNoSuchRoll() {
    Doc.says(3, Doc.NO_ROLL);
    for (int roll : NEVER_ROLLS) {
      Studio.refuses(Studio.ANY, Check.INDEX, "punch", x -> x.punch(roll, 0, 0, true));
      Studio.refuses(Studio.ANY, Check.INDEX, "mend", x -> x.punch(roll, 0, 0, false));
    }
    Check.refuses("one too many", Check.INDEX, () -> Studio.idle().punch(2, 0, 0, true));
    Check.is("the last roll", Studio.idle().punch(1, 0, 0, true), false);
  }

  private static void punchRefusesNumbersOutOfRange() {
    Doc.says(3, OUT);
    for (int row : NO_ROWS) {
      Studio.refuses(Studio.WITH_ROLLS, Check.ARGUMENT, "punch row " + row,
          x -> x.punch(0, row, 3, true));
    }
    for (int track : NO_TRACKS) {
      Studio.refuses(Studio.WITH_ROLLS, Check.ARGUMENT, "punch track " + track,
          x -> x.punch(0, 5, track, true));
    }
    // As if row 0 went on in row 1: no track 16 of row 0, no track -1 of row 1.
    Studio.refuses(Studio.WITH_ROLLS, Check.ARGUMENT, "punch", x -> x.punch(0, -1, 16, true));
    Studio.refuses(Studio.WITH_ROLLS, Check.ARGUMENT, "punch", x -> x.punch(0, 200, -1, true));
  }

  private static void punchRefusesNoSuchRollFirst() {
    Doc.says(Doc.FIRST);
    Studio.refuses(Studio.ANY, Check.INDEX, "punch", x -> x.punch(4, 200, 16, true));
    Studio.refuses(Studio.ANY, Check.INDEX, "punch", x -> x.punch(-1, -1, 0, true));
  }

  private static void holeRefusesNoSuchRoll() {
    Doc.says(4, Doc.NO_ROLL);
    for (int roll : NEVER_ROLLS) {
      Studio.refuses(Studio.ANY, Check.INDEX, "hole", x -> x.hole(roll, 0, 0));
    }
    Check.refuses("one too many", Check.INDEX, () -> Studio.idle().hole(2, 0, 0));
    Check.is("the last roll", Studio.idle().hole(1, 3, 3), true);
  }

  private static void holeRefusesNumbersOutOfRange() {
    Doc.says(4, OUT);
    for (int row : NO_ROWS) {
      Studio.refuses(Studio.WITH_ROLLS, Check.ARGUMENT, "hole", x -> x.hole(0, row, 3));
    }
    for (int track : NO_TRACKS) {
      Studio.refuses(Studio.WITH_ROLLS, Check.ARGUMENT, "hole", x -> x.hole(0, 5, track));
    }
  }

  private static void holeRefusesNoSuchRollFirst() {
    Doc.says(Doc.FIRST);
    Studio.refuses(Studio.ANY, Check.INDEX, "hole", x -> x.hole(4, 200, 0));
    Studio.refuses(Studio.ANY, Check.INDEX, "hole", x -> x.hole(-1, 0, 16));
  }

  private static void lengthIsOneMoreThanTheLastRow() {
    Doc.says("A roll is as long as one more than its last row with a hole");
    for (int track = 0; track < 16; track++) {
      Perforatum x = Studio.withHoles(track, 0);
      Check.is("first row alone", x.length(0), 1);
      x.punch(0, 198, track, true);
      Check.is("up to row 198", x.length(0), 199);
      x.punch(0, 199, track, true);
      Check.is("up to row 199", x.length(0), 200);
      x.punch(0, 199, track, false);
      Check.is("mended", x.length(0), 199);
      x.punch(0, 0, track, false);
      Check.is("the first row is no matter", x.length(0), 199);
    }
  }

  private static void lengthIs0WithoutHoles() {
    Doc.says(", 0 without holes.");
    Perforatum x = Studio.withRolls(2);
    Check.is("new", x.length(0), 0);
    x.punch(0, 0, 15, true);
    x.punch(0, 0, 15, false);
    Check.is("mended", x.length(0), 0);
    x.copy(1);
    Check.is("copied", x.length(2), 0);
    x.arrange(0, true);
    Check.is("arranged without music", x.length(0), 0);
  }

  private static void lengthRefusesNoSuchRoll() {
    Doc.says(5, Doc.NO_ROLL);
    for (int roll : NEVER_ROLLS) {
      Studio.refuses(Studio.ANY, Check.INDEX, "length", x -> x.length(roll));
    }
    Check.refuses("one too many", Check.INDEX, () -> Studio.idle().length(2));
    Check.is("the last roll", Studio.idle().length(1), 31);
  }

  private static void holesCountsFromNoneToAll() {
    Doc.says(6, "Returns how many.");
    Perforatum x = Studio.withRun(15, 0, 199);
    Check.is("all", x.holes(0, 15), 200);
    for (int track = 0; track < 15; track++) {
      Check.is("none", x.holes(0, track), 0);
    }
    x.punch(0, 0, 0, true);
    x.punch(0, 199, 0, true);
    Check.is("the first row and the last one", x.holes(0, 0), 2);
  }

  private static void holesRefusesNoSuchRoll() {
    Doc.says(6, Doc.NO_ROLL);
    for (int roll : NEVER_ROLLS) {
      Studio.refuses(Studio.ANY, Check.INDEX, "holes", x -> x.holes(roll, 0));
      Studio.refuses(Studio.ANY, Check.INDEX, "holes, roll first", x -> x.holes(roll, 16));
    }
    Check.refuses("one too many", Check.INDEX, () -> Studio.idle().holes(2, 0));
    Check.is("the last roll", Studio.idle().holes(1, 15), 1);
  }

  private static void holesRefusesTracksOutOfRange() {
    Doc.says(6, "Throws `IllegalArgumentException` if it is out of range");
    for (int track : NO_TRACKS) {
      Studio.refuses(Studio.WITH_ROLLS, Check.ARGUMENT, "holes", x -> x.holes(1, track));
    }
  }

  private static void copyIsLikeTheEmptyAndTheFullOne() {
    Doc.says(7, "`int copy(int roll) throws IndexOutOfBoundsException, IllegalStateException`: "
        + "Adds a roll that is like another one.");
    Perforatum x = Studio.withRolls(1);
    Check.is("copy of the empty one", x.copy(0), 1);
    Studio.typeForty(x);
    x.arrange(0, false);
    x.punch(0, 199, 15, true);
    Check.is("the copy stays empty", x.length(1), 0);
    Check.is("copy of the full one", x.copy(0), 2);
    Check.is("like it", x.unlike(0, 2), 0);
    Check.is("as long", x.length(2), 200);
    Check.is("its music", x.isMusic(2), true);
    x.punch(2, 0, 0, false);
    x.punch(0, 1, 12, true);
    Check.is("each is its own", x.unlike(0, 2), 2);
    Check.is("the other's hole", x.hole(0, 0, 0), true);
    Check.is("no other's hole", x.hole(2, 1, 12), false);
  }

  private static void copyRefusesNoSuchRoll() {
    Doc.says(7, Doc.NO_ROLL);
    for (int roll : NEVER_ROLLS) {
      Studio.refuses(Studio.ANY, Check.INDEX, "copy", x -> x.copy(roll));
    }
    Studio.refuses(List.of(Studio.IDLE, Studio.BUSY), Check.INDEX, "copy of the next one",
        x -> x.copy(2));
  }

  private static void copyRefusesTheFifth() {
    Doc.says(7, "Throws `IllegalStateException` if there are 4");
    for (int roll = 0; roll < 4; roll++) {
      int r = roll;
      Studio.refuses(List.of(Studio.FULL), Check.STATE, "copy", x -> x.copy(r));
    }
    Check.is("the fourth one", Studio.withRolls(3).copy(2), 3);
  }

  private static void copyRefusesNoSuchRollFirst() {
    Doc.says(Doc.FIRST);
    Studio.refuses(List.of(Studio.FULL), Check.INDEX, "copy", x -> x.copy(4));
    Studio.refuses(List.of(Studio.FULL), Check.INDEX, "copy", x -> x.copy(-1));
  }

  private static void unlikeCountsFromNoneToAll() {
    Doc.says("Two rolls are unlike in as many holes as one of them has and the other one has not.");
    Perforatum x = Studio.withRolls(3);
    Check.is("two empty ones", x.unlike(0, 1), 0);
    Check.is("an empty one and itself", x.unlike(0, 0), 0);
    Studio.typeForty(x);
    x.arrange(0, false);
    Check.is("one has all", x.unlike(0, 1), 36 * 60 + 4 * 14);
    Check.is("the other one has all", x.unlike(1, 0), 36 * 60 + 4 * 14);
    Check.is("a full one and itself", x.unlike(0, 0), 0);
    x.arrange(2, true);
    Check.is("all bridges", x.unlike(0, 2), 36 * 14 + 4 * 3);
    x.punch(1, 0, 15, true);
    x.punch(1, 199, 14, true);
    Check.is("in holes at tracks beside, too", x.unlike(1, 0), 36 * 60 + 4 * 14 + 2);
    x.punch(1, 0, 0, true);
    Check.is("not in those of both", x.unlike(1, 0), 36 * 60 + 4 * 14 + 1);
  }

  private static void unlikeRefusesNoSuchRollForEither() {
    Doc.says(8, Doc.NO_ROLL + ", for either");
    for (int roll : NEVER_ROLLS) {
      Studio.refuses(Studio.ANY, Check.INDEX, "unlike, for one", x -> x.unlike(roll, 0));
      Studio.refuses(Studio.ANY, Check.INDEX, "unlike, for the other", x -> x.unlike(0, roll));
      Studio.refuses(Studio.ANY, Check.INDEX, "unlike, for both", x -> x.unlike(roll, roll));
    }
    Check.refuses("one too many", Check.INDEX, () -> Studio.idle().unlike(1, 2));
    Check.refuses("one too many", Check.INDEX, () -> Studio.idle().unlike(2, 1));
  }

  private static void parentIsTheFewestUnlike() {
    Doc.says("The parent of a roll is that with a lower number from which it is unlike in the fewest");
    Perforatum x = Studio.withRolls(4);
    x.punch(0, 5, 5, true);
    x.punch(1, 5, 5, true);
    x.punch(1, 6, 5, true);
    x.punch(2, 9, 9, true);
    x.punch(3, 9, 9, true);
    x.punch(3, 5, 5, true);
    Check.is("the only one, however unlike", x.parent(1), 0);
    Check.is("a hole too few or too many", x.parent(3), 0);
    x.punch(3, 6, 5, true);
    Check.is("the one between", x.parent(3), 1);
    x.punch(3, 5, 5, false);
    x.punch(3, 6, 5, false);
    Check.is("the one just ahead", x.parent(3), 2);
    x.punch(3, 9, 9, false);
    x.punch(2, 9, 9, false);
    Check.is("no higher one, however like", x.parent(2), 0);
  }

  private static void parentIsTheLowestOfSeveral() {
    Doc.says(", of several the lowest.");
    Perforatum x = Studio.withRolls(4);
    Check.is("of three like ones", x.parent(3), 0);
    Check.is("of two like ones", x.parent(2), 0);
    x.punch(0, 0, 0, true);
    x.punch(0, 1, 0, true);
    x.punch(1, 2, 0, true);
    x.punch(2, 3, 0, true);
    Check.is("of two as near", x.parent(3), 1);
    x.punch(0, 1, 0, false);
    Check.is("of three as near", x.parent(3), 0);
  }

  private static void parentRefusesNoSuchRoll() {
    Doc.says(9, Doc.NO_ROLL);
    for (int roll : NEVER_ROLLS) {
      Studio.refuses(Studio.ANY, Check.INDEX, "parent", x -> x.parent(roll));
    }
    Check.refuses("one too many", Check.INDEX, () -> Studio.idle().parent(2));
    Check.is("the last roll", Studio.idle().parent(1), 0);
  }

  private static void parentRefusesTheLowestRoll() {
    Doc.says(9, "Throws `NoSuchElementException` if there is no lower number");
    Studio.refuses(Studio.WITH_ROLLS, Check.ELEMENT, "parent", x -> x.parent(0));
  }

  private static void parentRefusesNoSuchRollFirst() {
    Doc.says(Doc.FIRST);
    Studio.refuses(List.of(Studio.EMPTY), Check.INDEX, "parent", x -> x.parent(0));
    Studio.refuses(Studio.ANY, Check.INDEX, "parent", x -> x.parent(-1));
  }
}
