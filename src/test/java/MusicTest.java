/** Promises 10 to 15. */
public final class MusicTest {
  public static void main(String[] args) {
    notesAreTyped();
    noteRefusesWrongNumbers();
    noteRefusesNearOnes();
    noteRefusesTheFortyFirst();
    wipeForgets();
    arrangePunches();
    arrangeBuildsBridges();
    arrangeKeepsOtherTracks();
    scanJoinsSingleRows();
    scanOrdersNotes();
    scanRefuses();
    musicIsFoundAgain();
    Check.end("MusicTest");
  }

  private static void notesAreTyped() {
    Perforatum x = new Perforatum();
    Check.is("first note", x.note(0, 1, 0), 1);
    Check.is("last rows", x.note(140, 60, 11), 2);
    Check.is("last row alone", x.note(199, 1, 0), 3);
  }

  private static void noteRefusesWrongNumbers() {
    Perforatum x = new Perforatum();
    int max = Integer.MAX_VALUE;
    int[][] wrong = {
      {-1, 1, 0}, {200, 1, 0}, {max, 60, 0}, {0, 0, 0}, {0, 61, 0}, {0, max, 0}, {0, 1, -1},
      {0, 1, 12}, {199, 2, 0}, {141, 60, 0}, {Integer.MIN_VALUE, 1, 1}
    };
    for (int[] w : wrong) {
      Check.refuses("note", Check.ARGUMENT, () -> x.note(w[0], w[1], w[2]));
    }
    Check.is("none is typed", x.wipe(), 0);
  }

  private static void noteRefusesNearOnes() {
    Perforatum x = new Perforatum();
    x.note(20, 10, 4);
    int[][] near = {{20, 10, 4}, {25, 1, 4}, {15, 30, 4}, {31, 2, 4}, {30, 2, 4}, {17, 2, 4}};
    for (int[] n : near) {
      Check.refuses("near " + n[0], Check.UNSUPPORTED, () -> x.note(n[0], n[1], n[2]));
    }
    Check.is("another pitch", x.note(20, 10, 5), 2);
    Check.is("two rows behind", x.note(32, 1, 4), 3);
    Check.is("two rows ahead", x.note(16, 2, 4), 4);
    Check.refuses("a wrong number first", Check.ARGUMENT, () -> x.note(20, 61, 4));
  }

  private static void noteRefusesTheFortyFirst() {
    Perforatum x = new Perforatum();
    for (int i = 0; i < 40; i++) {
      Check.is("note " + i, x.note(i * 3, 1, 7), i + 1);
    }
    Check.refuses("too near first", Check.UNSUPPORTED, () -> x.note(118, 1, 7));
    Check.refuses("out of range first", Check.ARGUMENT, () -> x.note(200, 1, 7));
    Check.refuses("the 41st", Check.STATE, () -> x.note(120, 1, 7));
    Check.is("forty", x.wipe(), 40);
  }

  private static void wipeForgets() {
    Perforatum x = new Perforatum();
    x.roll();
    x.note(3, 3, 3);
    Check.is("wipe()", x.wipe(), 1);
    Check.is("wipe() again", x.wipe(), 0);
    Check.is("the same place is free", x.note(3, 3, 3), 1);
    x.wipe();
    Check.is("arrange nothing", x.arrange(0, false), 0);
  }

  private static void arrangePunches() {
    Perforatum x = new Perforatum();
    x.roll();
    x.note(5, 9, 2);
    x.note(6, 1, 0);
    Check.is("arrange without bridges", x.arrange(0, false), 10);
    for (int row = 4; row < 15; row++) {
      Check.is("row " + row, x.hole(0, row, 2), row >= 5 && row <= 13);
    }
    Check.is("the short one", x.hole(0, 6, 0), true);
    Check.is("length", x.length(0), 14);
    Check.refuses("arrange no roll", Check.INDEX, () -> x.arrange(1, true));
  }

  private static void arrangeBuildsBridges() {
    int[] due = {1, 2, 3, 4, 4, 5, 6, 7, 7, 8, 9, 10, 10};
    for (int length = 1; length <= due.length; length++) {
      Perforatum x = new Perforatum();
      x.roll();
      x.note(10, length, 9);
      Check.is("bridged " + length, x.arrange(0, true), due[length - 1]);
      Check.is("the last row of " + length, x.hole(0, 9 + length, 9), true);
      Check.is("the next row of " + length, x.hole(0, 10 + length, 9), false);
      Check.is("the fourth row of " + length, x.hole(0, 13, 9), length == 4);
      Check.is("found again " + length, x.isMusic(0), true);
    }
  }

  private static void arrangeKeepsOtherTracks() {
    Perforatum x = new Perforatum();
    x.roll();
    for (int track = 0; track < 16; track++) {
      x.punch(0, 50, track, true);
    }
    x.note(0, 2, 11);
    Check.is("holes at 0 to 11", x.arrange(0, true), 2);
    for (int track = 0; track < 16; track++) {
      Check.is("track " + track, x.hole(0, 50, track), track > 11);
    }
    Check.is("arranged anew", x.arrange(0, false), 2);
  }

  private static void scanJoinsSingleRows() {
    Perforatum x = new Perforatum();
    x.roll();
    int[] rows = {0, 1, 3, 5, 8, 198};
    for (int row : rows) {
      x.punch(0, row, 6, true);
    }
    x.punch(0, 100, 12, true);
    Check.is("scanned", x.scanned(0), 3);
    int[][] due = {{0, 6}, {8, 1}, {198, 1}};
    for (int i = 0; i < due.length; i++) {
      Check.is("first of " + i, x.scan(0, i, 'f'), due[i][0]);
      Check.is("length of " + i, x.scan(0, i, 'l'), due[i][1]);
      Check.is("pitch of " + i, x.scan(0, i, 'p'), 6);
    }
    x.punch(0, 199, 6, true);
    Check.is("up to the last row", x.scan(0, 2, 'l'), 2);
  }

  private static void scanOrdersNotes() {
    Perforatum x = new Perforatum();
    x.roll();
    x.punch(0, 10, 0, true);
    x.punch(0, 4, 11, true);
    x.punch(0, 4, 3, true);
    x.punch(0, 4, 7, true);
    int[] pitches = {3, 7, 11, 0};
    for (int i = 0; i < 4; i++) {
      Check.is("pitch of " + i, x.scan(0, i, 'p'), pitches[i]);
      Check.is("first of " + i, x.scan(0, i, 'f'), i < 3 ? 4 : 10);
    }
  }

  private static void scanRefuses() {
    Perforatum x = new Perforatum();
    Check.refuses("scanned without rolls", Check.INDEX, () -> x.scanned(0));
    Check.refuses("scan without rolls", Check.INDEX, () -> x.scan(0, 0, 'x'));
    x.roll();
    Check.is("scanned empty", x.scanned(0), 0);
    Check.refuses("no such thing first", Check.ARGUMENT, () -> x.scan(0, 0, 'v'));
    Check.refuses("no such note", Check.ELEMENT, () -> x.scan(0, 0, 'f'));
    x.punch(0, 9, 9, true);
    Check.refuses("index 1", Check.ELEMENT, () -> x.scan(0, 1, 'f'));
    Check.refuses("index -1", Check.ELEMENT, () -> x.scan(0, -1, 'l'));
    Check.refuses("capitals", Check.ARGUMENT, () -> x.scan(0, 0, 'F'));
  }

  private static void musicIsFoundAgain() {
    Perforatum x = new Perforatum();
    Check.refuses("isMusic without rolls", Check.INDEX, () -> x.isMusic(0));
    x.roll();
    Check.is("nothing is nothing", x.isMusic(0), true);
    x.note(100, 60, 1);
    x.note(3, 8, 1);
    x.note(3, 4, 0);
    Check.is("not yet", x.isMusic(0), false);
    x.arrange(0, true);
    Check.is("bridged", x.isMusic(0), true);
    x.punch(0, 6, 1, true);
    Check.is("a bridge closed", x.isMusic(0), true);
    x.punch(0, 5, 1, false);
    Check.is("two rows without, or one", x.isMusic(0), true);
    x.punch(0, 6, 1, false);
    Check.is("torn in two", x.isMusic(0), false);
    x.arrange(0, false);
    x.punch(0, 159, 1, false);
    Check.is("one shorter", x.isMusic(0), false);
    x.punch(0, 159, 1, true);
    x.punch(0, 60, 12, true);
    Check.is("the pedal is no music", x.isMusic(0), true);
    x.punch(0, 60, 11, true);
    Check.is("one more", x.isMusic(0), false);
    x.punch(0, 60, 11, false);
    x.wipe();
    Check.is("wiped", x.isMusic(0), false);
    x.note(3, 4, 0);
    x.note(100, 60, 2);
    x.note(3, 8, 1);
    Check.is("another pitch", x.isMusic(0), false);
  }
}
