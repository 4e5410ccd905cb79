import java.util.Arrays;
import java.util.List;

/** The edges of promises 10 to 15: music, and how it is found again. */
final class MusicEdges {
  private static final int MIN = Integer.MIN_VALUE;
  private static final int MAX = Integer.MAX_VALUE;
  private static final String OUT =
      "Throws `IllegalArgumentException` if a number is out of range, or the last row is";
  private static final int[] NEVER_ROLLS = {-1, 4, 5, 256, MIN, MAX};

  private MusicEdges() {}

  static void run() {
    fortyNotesAtMost();
    noteRefusesTheFortyFirst();
    firstRowIsOnTheRoll();
    lengthIsFrom1To60();
    lastRowIs199AtMost();
    pitchIsFrom0To11();
    twoRowsStandBetween();
    noteRefusesNearOnes();
    noteRefusesOutOfRangeFirst();
    noteRefusesNearOnesBeforeTheFortyFirst();
    wipeForgetsNoneAndAll();
    arrangedNoteHasItsRows();
    arrangedHolesTakeTheirTracks();
    bridgesStandBehindEachThreeRows();
    lastRowIsNoBridge();
    bridgesAreOfEachNote();
    arrangeMakesNoneAndAll();
    arrangeRefusesNoSuchRoll();
    scannedTracksAreThoseOfTheNotes();
    singleRowsBetweenBelongTogether();
    scanEndsAtTheRollsEnds();
    scannedCountsFromNoneToAll();
    scanIsInOrder();
    scannedRefusesNoSuchRoll();
    scanRefusesNoSuchRoll();
    scanRefusesNoSuchThing();
    scanRefusesNoSuchNote();
    scanRefusesInOrder();
    isMusicOfNoneAndAll();
    isMusicWhateverTheOrder();
    isMusicLooksAtAllThree();
    isMusicRefusesNoSuchRoll();
  }

  private static void noteIsRefused(int first, int length, int pitch) {
    Studio.refuses(Studio.ANY, Check.ARGUMENT, "note(" + first + ", " + length + ", " + pitch + ")",
        x -> x.note(first, length, pitch));
  }

  private static void fortyNotesAtMost() {
    Doc.says("Music. At most 40 notes are typed");
    Perforatum x = Studio.withRolls(1);
    for (int i = 0; i < 40; i++) {
      Check.is("note " + i, x.note(4 * i, 2, 11), i + 1);
    }
    Check.is("all 40 are made into a roll", x.arrange(0, false), 80);
    Check.is("all 40 are found again", x.scanned(0), 40);
    Check.refuses("the 41st", Check.STATE, () -> x.note(0, 1, 0));
    Check.is("all 40 are wiped", x.wipe(), 40);
    Check.is("there is room anew", x.note(0, 1, 0), 1);
  }

  private static void noteRefusesTheFortyFirst() {
    Doc.says(10, "Throws `IllegalStateException` if there are 40");
    Studio.refuses(List.of(Studio.FULL), Check.STATE, "note", x -> x.note(186, 14, 4));
    Studio.refuses(List.of(Studio.FULL), Check.STATE, "note", x -> x.note(199, 1, 11));
  }

  private static void firstRowIsOnTheRoll() {
    Doc.says(", each with a first row");
    Doc.says(10, OUT);
    Check.is("row 0", Studio.withRolls(1).note(0, 1, 0), 1);
    Check.is("row 199", Studio.withRolls(1).note(199, 1, 0), 1);
    for (int first : new int[] {-1, -60, 200, 201, MIN, MAX, MAX - 59, MIN + 1}) {
      noteIsRefused(first, 1, 11);
      noteIsRefused(first, 60, 11);
    }
  }

  private static void lengthIsFrom1To60() {
    Doc.says(", a length, 1 to 60");
    Doc.says(10, OUT);
    for (int length : new int[] {1, 2, 59, 60}) {
      Perforatum x = Studio.withRolls(1);
      x.note(7, length, 3);
      Check.is("as long as told", x.arrange(0, false), length);
    }
    for (int length : new int[] {0, -1, 61, 62, 200, MIN, MAX}) {
      noteIsRefused(0, length, 11);
      noteIsRefused(100, length, 11);
    }
  }

  private static void lastRowIs199AtMost() {
    Doc.says(", the last row being 199 at most");
    Doc.says(10, OUT);
    for (int length : new int[] {1, 2, 30, 60}) {
      Perforatum x = Studio.withRolls(1);
      Check.is("up to row 199", x.note(200 - length, length, 9), 1);
      x.arrange(0, true);
      Check.is("as long as can be", x.length(0), 200);
      Check.is("no longer", x.isMusic(0), true);
    }
    for (int length : new int[] {2, 30, 60}) {
      noteIsRefused(201 - length, length, 11);
      noteIsRefused(199, length, 11);
    }
    noteIsRefused(MAX, MAX, 11);
    noteIsRefused(199, MAX, 11);
  }

  private static void pitchIsFrom0To11() {
    Doc.says(", and a pitch, 0 to 11;");
    Doc.says(10, OUT);
    for (int pitch = 0; pitch < 12; pitch++) {
      Perforatum x = Studio.withRolls(1);
      x.note(50, 1, pitch);
      x.arrange(0, false);
      Check.is("its track", x.hole(0, 50, pitch), true);
      Check.is("its pitch", x.scan(0, 0, 'p'), pitch);
    }
    for (int pitch : new int[] {-1, 12, 13, 15, 16, 32, MIN, MAX}) {
      noteIsRefused(0, 1, pitch);
      noteIsRefused(199, 1, pitch);
    }
  }

  private static void twoRowsStandBetween() {
    Doc.says("strictly between the last row of a note and the first row of another one of its pitch "
        + "are 2 rows at least.");
    Perforatum x = Studio.withRolls(1);
    Check.is("the first one", x.note(50, 10, 4), 1);
    Check.is("2 rows behind it", x.note(62, 1, 4), 2);
    Check.is("2 rows ahead of it", x.note(47, 1, 4), 3);
    Check.is("a long one ahead", x.note(0, 45, 4), 4);
    Check.is("another pitch at once", x.note(50, 10, 5), 5);
    Check.is("another pitch beside", x.note(60, 1, 3), 6);
    Check.is("from the first row", x.note(0, 1, 0), 7);
    Check.is("2 rows behind that", x.note(3, 1, 0), 8);
    Check.is("up to the last row", x.note(199, 1, 0), 9);
    Check.is("2 rows ahead of that", x.note(196, 1, 0), 10);
  }

  private static Perforatum withOneNote() {
    Perforatum x = Studio.withRolls(1);
    x.note(50, 10, 4);
    return x;
  }

  private static void noteRefusesNearOnes() {
    Doc.says(10, "Throws `UnsupportedOperationException` if it is too near to another one of its pitch");
    int[][] near = {
      {61, 1}, {60, 1}, {59, 1}, {55, 2}, {50, 10}, {50, 1}, {48, 1}, {49, 1}, {47, 2}, {40, 9},
      {30, 60}, {45, 60}, {0, 49}, {61, 60}
    };
    for (int[] n : near) {
      Studio.refuses(List.of(MusicEdges::withOneNote), Check.UNSUPPORTED,
          "note(" + n[0] + ", " + n[1] + ", 4)", x -> x.note(n[0], n[1], 4));
    }
    Studio.refuses(List.of(Studio.BUSY), Check.UNSUPPORTED, "a row between two",
        x -> x.note(12, 1, 0));
    Perforatum y = withOneNote();
    y.wipe();
    Check.is("no wiped one is near", y.note(51, 1, 4), 1);
  }

  private static void noteRefusesOutOfRangeFirst() {
    Doc.says(Doc.FIRST);
    List<Studio.Start> starts = List.of(MusicEdges::withOneNote);
    Studio.refuses(starts, Check.ARGUMENT, "near and too long", x -> x.note(50, 61, 4));
    Studio.refuses(starts, Check.ARGUMENT, "near and without length", x -> x.note(50, 0, 4));
    List<Studio.Start> full = List.of(Studio.FULL);
    Studio.refuses(full, Check.ARGUMENT, "near, the 41st, too far", x -> x.note(190, 60, 0));
    Studio.refuses(full, Check.ARGUMENT, "the 41st, no pitch", x -> x.note(0, 1, 12));
    Studio.refuses(full, Check.ARGUMENT, "the 41st, last row out", x -> x.note(199, 2, 11));
  }

  private static void noteRefusesNearOnesBeforeTheFortyFirst() {
    Doc.says(Doc.FIRST);
    List<Studio.Start> full = List.of(Studio.FULL);
    Studio.refuses(full, Check.UNSUPPORTED, "near, the 41st", x -> x.note(0, 60, 0));
    Studio.refuses(full, Check.UNSUPPORTED, "just near, the 41st", x -> x.note(185, 1, 11));
  }

  private static void wipeForgetsNoneAndAll() {
    Doc.says(11, "Returns how many notes there were.");
    Perforatum x = Studio.withRolls(1);
    Check.is("none", x.wipe(), 0);
    Studio.typeForty(x);
    x.arrange(0, true);
    long sum = x.checksum();
    Check.is("all", x.wipe(), 40);
    Check.is("none anew", x.wipe(), 0);
    Check.is("rolls keep their holes", x.checksum(), sum);
  }

  private static void arrangedNoteHasItsRows() {
    Doc.says("Made into a roll, each has holes from its first to its last row;");
    int[][] notes = {{0, 1}, {0, 60}, {100, 7}, {140, 60}, {199, 1}};
    for (int[] n : notes) {
      Perforatum x = Studio.withRolls(1);
      x.note(n[0], n[1], 8);
      Check.is("as many holes", x.arrange(0, false), n[1]);
      Check.is("the first row", x.hole(0, n[0], 8), true);
      Check.is("the last row", x.length(0), n[0] + n[1]);
      Check.is("none ahead, none behind", x.holes(0, 8), n[1]);
      Check.is("one note", x.scan(0, 0, 'l'), n[1]);
    }
  }

  private static void arrangedHolesTakeTheirTracks() {
    Doc.says(12, "`int arrange(int roll, boolean hasBridges) throws IndexOutOfBoundsException`: "
        + "Makes the music into a roll, whose holes at the tracks 0 to 11 go; others stay.");
    Perforatum x = Studio.withRolls(2);
    for (int track = 0; track < 16; track++) {
      x.punch(0, 0, track, true);
      x.punch(0, 199, track, true);
      x.punch(1, 9, track, true);
    }
    x.note(3, 2, 11);
    Check.is("holes at these", x.arrange(0, true), 2);
    for (int track = 0; track < 16; track++) {
      Check.is("first row " + track, x.hole(0, 0, track), track > 11);
      Check.is("last row " + track, x.hole(0, 199, track), track > 11);
      Check.is("other roll " + track, x.hole(1, 9, track), true);
    }
    Check.is("the music", x.holes(0, 11), 2);
  }

  private static void bridgesStandBehindEachThreeRows() {
    Doc.says("with bridges, behind each three rows with holes of a note the next one has none");
    for (int length : new int[] {1, 2, 3, 5, 6, 7, 9, 10, 57, 58, 59}) {
      Perforatum x = Studio.withRolls(1);
      x.note(20, length, 2);
      Check.is("holes of " + length, x.arrange(0, true), length - length / 4);
      for (int k = 0; k < length; k++) {
        Check.is("row " + k + " of " + length, x.hole(0, 20 + k, 2), k % 4 != 3);
      }
      Check.is("none behind " + length, x.hole(0, 20 + length, 2), false);
    }
  }

  private static void lastRowIsNoBridge() {
    Doc.says(", but for its last row.");
    for (int length : new int[] {4, 8, 12, 56, 60}) {
      Perforatum x = Studio.withRolls(1);
      x.note(20, length, 2);
      Check.is("holes of " + length, x.arrange(0, true), length - length / 4 + 1);
      Check.is("last row of " + length, x.hole(0, 19 + length, 2), true);
      Check.is("four rows ahead of it", x.hole(0, 15 + length, 2), false);
      Check.is("found again " + length, x.isMusic(0), true);
    }
  }

  private static void bridgesAreOfEachNote() {
    Doc.says("behind each three rows with holes of a note the next one has none");
    Perforatum x = Studio.withRolls(1);
    x.note(0, 5, 0);
    x.note(7, 5, 0);
    x.note(1, 5, 1);
    Check.is("holes", x.arrange(0, true), 12);
    for (int bridge : new int[] {3, 10}) {
      Check.is("bridge at " + bridge, x.hole(0, bridge, 0), false);
      Check.is("ahead of it", x.hole(0, bridge - 1, 0), true);
      Check.is("behind it", x.hole(0, bridge + 1, 0), true);
    }
    Check.is("bridge of the other pitch", x.hole(0, 4, 1), false);
    Check.is("three notes", x.scanned(0), 3);
  }

  private static void arrangeMakesNoneAndAll() {
    Doc.says(12, "Returns how many holes it has at these.");
    Perforatum x = Studio.withRolls(1);
    x.punch(0, 0, 0, true);
    x.punch(0, 0, 12, true);
    Check.is("no music", x.arrange(0, true), 0);
    Check.is("the other hole stays", x.length(0), 1);
    Studio.typeForty(x);
    Check.is("all without bridges", x.arrange(0, false), 36 * 60 + 4 * 14);
    Check.is("all with bridges", x.arrange(0, true), 36 * 46 + 4 * 11);
    Check.is("the same anew", x.arrange(0, true), 36 * 46 + 4 * 11);
  }

  private static void arrangeRefusesNoSuchRoll() {
    Doc.says(12, Doc.NO_ROLL);
    for (int roll : NEVER_ROLLS) {
      Studio.refuses(Studio.ANY, Check.INDEX, "arrange", x -> x.arrange(roll, true));
      Studio.refuses(Studio.ANY, Check.INDEX, "arrange", x -> x.arrange(roll, false));
    }
    Check.refuses("one too many", Check.INDEX, () -> Studio.idle().arrange(2, true));
    Check.is("the last roll", Studio.idle().arrange(1, false), 42);
  }

  private static void scannedTracksAreThoseOfTheNotes() {
    Doc.says("Scanned, a roll has notes: of each of the tracks 0 to 11 the rows with holes");
    for (int track = 0; track < 16; track++) {
      Perforatum x = Studio.withHoles(track, 10, 11);
      Check.is("notes of track " + track, x.scanned(0), track < 12 ? 1 : 0);
      Check.is("music of track " + track, x.isMusic(0), track > 11);
    }
  }

  private static void singleRowsBetweenBelongTogether() {
    Doc.says(", those with a single row between them belonging together;");
    Perforatum x = Studio.withHoles(5, 10, 12);
    Check.is("a single row between", x.scanned(0), 1);
    Check.is("together", x.scan(0, 0, 'l'), 3);
    x.punch(0, 12, 5, false);
    x.punch(0, 13, 5, true);
    Check.is("two rows between", x.scanned(0), 2);
    Check.is("the first alone", x.scan(0, 0, 'l'), 1);
    Check.is("the second", x.scan(0, 1, 'f'), 13);
    x.punch(0, 11, 5, true);
    Check.is("a single row again", x.scanned(0), 1);
    Check.is("together again", x.scan(0, 0, 'l'), 4);
    x.punch(0, 12, 6, true);
    Check.is("no hole of the next track", x.scanned(0), 2);
    Perforatum y = Studio.withHoles(0, 0, 2, 4, 6, 8, 10, 12, 14);
    Check.is("each with a single row between", y.scanned(0), 1);
    Check.is("all of them", y.scan(0, 0, 'l'), 15);
  }

  private static void scanEndsAtTheRollsEnds() {
    Doc.says("the rows with holes, those with a single row between them belonging together;");
    Perforatum x = Studio.withHoles(11, 0, 199);
    Check.is("row 199 is not ahead of row 0", x.scanned(0), 2);
    Check.is("row 0", x.scan(0, 0, 'f'), 0);
    Check.is("alone", x.scan(0, 0, 'l'), 1);
    Check.is("row 199", x.scan(0, 1, 'f'), 199);
    Check.is("alone, too", x.scan(0, 1, 'l'), 1);
    x.punch(0, 197, 11, true);
    Check.is("up to row 199", x.scan(0, 1, 'l'), 3);
    x.punch(0, 1, 11, true);
    Check.is("from row 0", x.scan(0, 0, 'l'), 2);
    Perforatum y = Studio.withRun(0, 0, 199);
    Check.is("all rows are one note", y.scanned(0), 1);
    Check.is("longer than any typed", y.scan(0, 0, 'l'), 200);
  }

  private static void scannedCountsFromNoneToAll() {
    Doc.says(13, "Returns how many.");
    Perforatum x = Studio.withRolls(1);
    Check.is("none", x.scanned(0), 0);
    for (int row = 0; row < 199; row += 3) {
      x.punch(0, row, 0, true);
      x.punch(0, row, 11, true);
    }
    Check.is("as many as there can be of two tracks", x.scanned(0), 134);
    Check.is("the last one", x.scan(0, 133, 'f'), 198);
    Check.is("its pitch", x.scan(0, 133, 'p'), 11);
    Check.is("the one ahead", x.scan(0, 132, 'p'), 0);
  }

  private static void scanIsInOrder() {
    Doc.says("in the order of their first rows, of like ones of pitches.");
    Perforatum x = Studio.withRolls(1);
    int[][] punched = {{9, 0}, {5, 11}, {0, 11}, {5, 2}, {5, 10}, {0, 0}};
    for (int[] n : punched) {
      x.punch(0, n[0], n[1], true);
      x.punch(0, n[0] + 2, n[1], true);
    }
    int[][] due = {{0, 0}, {0, 11}, {5, 2}, {5, 10}, {5, 11}, {9, 0}};
    Check.is("notes", x.scanned(0), due.length);
    for (int i = 0; i < due.length; i++) {
      Check.is("first row of " + i, x.scan(0, i, 'f'), due[i][0]);
      Check.is("pitch of " + i, x.scan(0, i, 'p'), due[i][1]);
      Check.is("length of " + i, x.scan(0, i, 'l'), 3);
    }
  }

  private static void scannedRefusesNoSuchRoll() {
    Doc.says(13, Doc.NO_ROLL);
    for (int roll : NEVER_ROLLS) {
      Studio.refuses(Studio.ANY, Check.INDEX, "scanned", x -> x.scanned(roll));
    }
    Check.refuses("one too many", Check.INDEX, () -> Studio.idle().scanned(2));
    Check.is("the last roll", Studio.idle().scanned(1), 1);
  }

  private static void scanRefusesNoSuchRoll() {
    Doc.says(14, Doc.NO_ROLL);
    for (int roll : NEVER_ROLLS) {
      Studio.refuses(Studio.ANY, Check.INDEX, "scan", x -> x.scan(roll, 0, 'f'));
    }
    Check.refuses("one too many", Check.INDEX, () -> Studio.idle().scan(2, 0, 'f'));
    Check.is("the last roll", Studio.idle().scan(1, 0, 'f'), 3);
  }

  private static void scanRefusesNoSuchThing() {
    Doc.says(14, "Throws `IllegalArgumentException` if there is no such thing");
    for (char what = 0; what < 512; what++) {
      char w = what;
      if ("flp".indexOf(w) < 0) {
        Check.refuses("scan " + (int) w, Check.ARGUMENT,
            () -> Studio.withHoles(0, 0).scan(0, 0, w));
      }
    }
    for (char what : new char[] {'F', 'v', 'n', 0, (char) ('f' + 256), Character.MAX_VALUE}) {
      Studio.refuses(Studio.WITH_ROLLS, Check.ARGUMENT, "scan", x -> x.scan(0, 0, what));
    }
  }

  private static void scanRefusesNoSuchNote() {
    Doc.says(14, "- `index`: the index, from 0");
    Doc.says(14, "Throws `NoSuchElementException` if there is no such note");
    for (char what : new char[] {'f', 'l', 'p'}) {
      for (int index : new int[] {-1, 40, 41, 200, 512, MIN, MAX}) {
        Studio.refuses(Studio.WITH_ROLLS, Check.ELEMENT, "scan", x -> x.scan(0, index, what));
      }
      for (int count = 0; count < 3; count++) {
        int last = count - 1;
        Perforatum x = Studio.withHoles(0, Arrays.copyOf(new int[] {9, 100}, count));
        Check.refuses("the next one", Check.ELEMENT, () -> x.scan(0, last + 1, what));
        if (last >= 0) {
          int first = last == 0 ? 9 : 100;
          int due = what == 'f' ? first : what == 'l' ? 1 : 0;
          Check.is("the last one", x.scan(0, last, what), due);
        }
      }
      int due = what == 'f' ? 186 : what == 'l' ? 14 : 3;
      Check.is("the 40th of 40", Studio.full().scan(3, 39, what), due);
      Check.refuses("no 41st", Check.ELEMENT, () -> Studio.full().scan(3, 40, what));
    }
  }

  private static void scanRefusesInOrder() {
    Doc.says(Doc.FIRST);
    Studio.refuses(Studio.ANY, Check.INDEX, "roll, then thing", x -> x.scan(4, 0, 'x'));
    Studio.refuses(Studio.ANY, Check.INDEX, "roll, then note", x -> x.scan(-1, -1, 'f'));
    Studio.refuses(Studio.ANY, Check.INDEX, "all three", x -> x.scan(4, 999, 'x'));
    Studio.refuses(Studio.WITH_ROLLS, Check.ARGUMENT, "thing, then note", x -> x.scan(0, -1, 'x'));
    Studio.refuses(Studio.WITH_ROLLS, Check.ARGUMENT, "thing, then note", x -> x.scan(1, 50, 'o'));
  }

  private static void isMusicOfNoneAndAll() {
    Doc.says(15, "Returns whether it does.");
    Perforatum x = Studio.withRolls(2);
    Check.is("none of none", x.isMusic(0), true);
    x.punch(0, 5, 12, true);
    Check.is("the pedal is none", x.isMusic(0), true);
    Studio.typeForty(x);
    Check.is("none of all", x.isMusic(0), false);
    for (boolean hasBridges : new boolean[] {false, true}) {
      x.arrange(0, hasBridges);
      Check.is("all of all", x.isMusic(0), true);
    }
    Check.is("another roll", x.isMusic(1), false);
    x.wipe();
    Check.is("all of none", x.isMusic(0), false);
    Check.is("none of none again", x.isMusic(1), true);
  }

  private static void isMusicWhateverTheOrder() {
    Doc.says(15, "`boolean isMusic(int roll) throws IndexOutOfBoundsException`: Returns whether a roll, "
        + "scanned, gives the music as typed, whatever its order.");
    Perforatum x = Studio.withRolls(1);
    int[][] notes = {{140, 60, 0}, {0, 8, 11}, {0, 4, 3}, {70, 1, 11}, {11, 1, 11}};
    for (int[] n : notes) {
      x.note(n[0], n[1], n[2]);
    }
    x.arrange(0, true);
    Check.is("typed in no order", x.isMusic(0), true);
    x.wipe();
    for (int i = notes.length - 1; i >= 0; i--) {
      x.note(notes[i][0], notes[i][1], notes[i][2]);
    }
    Check.is("typed in another one", x.isMusic(0), true);
  }

  private static void isMusicLooksAtAllThree() {
    Doc.says(15, "Returns whether it does.");
    int[][] others = {{51, 10, 4}, {49, 10, 4}, {50, 9, 4}, {50, 11, 4}, {50, 10, 5}, {50, 10, 3},
        {49, 11, 4}, {10, 50, 4}};
    for (int[] n : others) {
      Perforatum x = withOneNote();
      x.arrange(0, true);
      x.wipe();
      x.note(n[0], n[1], n[2]);
      Check.is("another note", x.isMusic(0), false);
    }
    Perforatum x = withOneNote();
    x.arrange(0, false);
    x.punch(0, 62, 4, true);
    Check.is("one more", x.isMusic(0), false);
    x.note(62, 1, 4);
    Check.is("typed, too", x.isMusic(0), true);
    x.note(80, 1, 4);
    Check.is("one less", x.isMusic(0), false);
    Perforatum y = Studio.withRun(0, 0, 60);
    y.note(0, 60, 0);
    Check.is("longer than any typed", y.isMusic(0), false);
  }

  private static void isMusicRefusesNoSuchRoll() {
    Doc.says(15, Doc.NO_ROLL);
    for (int roll : NEVER_ROLLS) {
      Studio.refuses(Studio.ANY, Check.INDEX, "isMusic", x -> x.isMusic(roll));
    }
    Check.refuses("one too many", Check.INDEX, () -> Studio.idle().isMusic(2));
    Check.is("the last roll", Studio.idle().isMusic(1), false);
  }
}
