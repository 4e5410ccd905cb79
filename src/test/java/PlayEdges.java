import java.util.List;

/** The edges of promises 21 to 27: loading, how rows are read, the level and the suction. */
final class PlayEdges {
  private static final int MIN = Integer.MIN_VALUE;
  private static final int MAX = Integer.MAX_VALUE;
  private static final String OUT = "Throws `IllegalArgumentException` if it is out of range";
  private static final int[] NEVER_ROLLS = {-1, 4, 5, 256, MIN, MAX};

  private PlayEdges() {}

  static void run() {
    loadedRollIsAsAtFirst();
    loadedInPlaceOfAnother();
    loadedWhileOneSounds();
    emptyRollIsNotPlayed();
    loadAnswersTheLength();
    loadRefusesNoSuchRoll();
    asideIs0AsItIsLoaded();
    asideIsFromMinus2To2();
    asideReadsTheTrackThatIsMore();
    asideReadsNoneBeyond0();
    asideReadsNoneBeyond15();
    asideRefusesWithoutPlaying();
    asideRefusesOutOfRange();
    asideRefusesWithoutPlayingFirst();
    tickPlaysFrom1To100();
    tickRefusesWithoutPlaying();
    tickRefusesOutOfRange();
    tickRefusesWithoutPlayingFirst();
    tickPlaysUpToTheEnd();
    shortestAndLongestRollEnd();
    endClosesAllValves();
    isPlayingBetweenLoadAndEnd();
    rowRefusesWithoutPlaying();
    suctionRefusesWithoutPlaying();
    levelRefusesWithoutPlaying();
    levelIs0To6();
    makerALatchesAndReleases();
    makerBLooksAtTheRowAhead();
    makerBCancelsBoth();
    makerCMovesByTwo();
    makerCGoesTowards3();
    suctionIs1000AtMost();
    suctionIs0AtLeast();
    suctionIsLessByOpenValvesOnly();
    tellingHoldsFromTheNextRowOn();
    punchingHoldsFromTheNextRowOn();
  }

  private static void loadedRollIsAsAtFirst() {
    Doc.says("Playing. A roll is loaded, from its first row, with the suction 1000, the level 3, "
        + "nothing latched, all valves closed");
    // Loaded over a roll in whose middle it was latched, aside, sagged, with valves open.
    Perforatum x = Studio.busy();
    Check.is("one rings on", x.isHeard(5) && !x.isOpen(5), true);
    Check.is("one sounds", x.isHeard(8) && x.isOpen(8), true);
    x.load(0);
    Check.is("row", x.row(), 0);
    Check.is("suction", x.suction(), 1000);
    Check.is("level", x.level(), 3);
    Check.is("soundings", x.soundings(), 0);
    for (int note = 0; note < 12; note++) {
      Check.is("closed " + note, x.isOpen(note), false);
      Check.is("silent " + note, x.isHeard(note), false);
    }
    Check.refuses("no openings", Check.ARITHMETIC, x::heardShare);
    x.punch(0, 0, 13, false);
    x.tick(1);
    Check.is("nothing latched", x.level(), 2);
    Perforatum y = Studio.withRun(13, 0, 5);
    y.maker('b');
    y.load(0);
    y.tick(2);
    y.load(0);
    y.tick(1);
    Check.is("none was read ahead of the first row", y.level(), 4);
  }

  private static void loadedInPlaceOfAnother() {
    Doc.says(21, "`int load(int roll) throws IndexOutOfBoundsException`: "
        + "Loads a roll, in place of any other one.");
    Perforatum x = Studio.withRun(4, 0, 9);
    x.roll();
    x.punch(1, 5, 7, true);
    x.load(0);
    x.tick(3);
    Check.is("another roll", x.load(1), 6);
    Check.is("no sounding of the other one", x.soundings(), 0);
    x.tick(5);
    Check.is("no opening of the other one", x.isOpen(4), false);
    x.tick(1);
    Check.is("its own sounding", x.sounding(0, 'n'), 7);
    Check.is("and no other one", x.soundings(), 1);
    // A valve that was closed while the other one was played has no rest to keep.
    Perforatum y = Studio.withHoles(0, 0, 9);
    y.set('g', 0);
    y.valve(0, 0, 9);
    y.load(0);
    y.tick(9);
    y.load(0);
    y.tick(1);
    Check.is("at once", y.soundings(), 1);
  }

  private static void loadedWhileOneSounds() {
    Doc.says(21, "`int load(int roll) throws IndexOutOfBoundsException`: "
        + "Loads a roll, in place of any other one.");
    for (int pedal = 0; pedal < 2; pedal++) {
      Perforatum x = Studio.withRun(4, 0, 2);
      Studio.punchRun(x, 12, 3, 9);
      x.roll();
      x.punch(1, 0, 7, true);
      x.punch(1, 9, 15, true);
      x.set('g', 0);
      x.load(0);
      x.tick(pedal == 0 ? 2 : 4);
      Check.is("heard of the one before", x.isHeard(4), true);
      x.load(1);
      Check.is("not of this one", x.isHeard(4), false);
      x.tick(2);
      Check.is("this one's sounding ended", x.sounding(0, 'l'), 0);
      x.tick(100);
      Check.is("and nothing ends it anew", x.sounding(0, 'l'), 0);
      Check.is("it is the only one", x.soundings(), 1);
    }
  }

  private static void emptyRollIsNotPlayed() {
    Doc.says(", all valves closed; one without holes is not played.");
    Perforatum x = Studio.withRolls(1);
    Check.is("empty", x.load(0), 0);
    Check.is("not played", x.isPlaying(), false);
    x.punch(0, 0, 0, true);
    Check.is("not played by a later hole", x.isPlaying(), false);
    Check.refuses("not played", Check.STATE, () -> x.tick(1));
    Check.is("a single hole", x.load(0), 1);
    Check.is("is played", x.isPlaying(), true);
    x.roll();
    Check.is("empty in its place", x.load(1), 0);
    Check.is("none is played", x.isPlaying(), false);
    Perforatum y = Studio.withHoles(15, 199);
    Check.is("a hole that is nothing's", y.load(0), 200);
    Check.is("is played, too", y.isPlaying(), true);
  }

  private static void loadAnswersTheLength() {
    Doc.says(21, "Returns how long it is.");
    for (int row : new int[] {0, 1, 99, 100, 198, 199}) {
      Check.is("length", Studio.withHoles(12, row).load(0), row + 1);
    }
  }

  private static void loadRefusesNoSuchRoll() {
    Doc.says(21, "Throws `IndexOutOfBoundsException` if there is no such roll");
    for (int roll : NEVER_ROLLS) {
      Studio.refuses(Studio.ANY, Check.INDEX, "load " + roll, x -> x.load(roll));
    }
    Studio.refuses(List.of(Studio.IDLE, Studio.BUSY), Check.INDEX, "load the next", x -> x.load(2));
    Check.is("the last roll", Studio.idle().load(1), 31);
  }

  private static void asideIs0AsItIsLoaded() {
    Doc.says(", 0 as it is loaded,");
    Perforatum x = Studio.withRun(5, 0, 9);
    for (int s = -2; s <= 2; s++) {
      x.load(0);
      Check.is("as it is loaded", x.aside(s), 0);
      Check.is("then", x.aside(s), s);
    }
    x.load(0);
    x.tick(1);
    Check.is("read as it is", x.isOpen(5), true);
  }

  private static void asideIsFromMinus2To2() {
    Doc.says("with the paper aside by s, -2 to 2");
    for (int s = -2; s <= 2; s++) {
      Perforatum x = Studio.withRun(6, 0, 9);
      x.load(0);
      Check.is("before", x.aside(s), 0);
      x.tick(1);
      for (int note = 0; note < 12; note++) {
        Check.is("aside " + s + " note " + note, x.isOpen(note), note == 6 - s);
      }
    }
  }

  private static void asideReadsTheTrackThatIsMore() {
    Doc.says("a track reads the hole of the track that is s more");
    for (int s = -2; s <= 2; s++) {
      for (int track = 0; track < 16; track++) {
        Perforatum x = Studio.withRun(track, 0, 2);
        x.maker('c');
        x.load(0);
        x.aside(s);
        x.tick(1);
        int reader = track - s;
        for (int note = 0; note < 12; note++) {
          Check.is("aside " + s + " hole " + track, x.isOpen(note), note == reader);
        }
        Check.is("level", x.level(), reader == 13 ? 5 : reader == 14 ? 1 : 3);
      }
    }
    Perforatum y = Studio.withHoles(14, 1, 2, 3, 4, 5);
    y.punch(0, 0, 2, true);
    y.set('g', 0);
    y.load(0);
    y.aside(2);
    y.tick(3);
    Check.is("the pedal reads 14", y.isHeard(0), true);
    y.aside(1);
    y.tick(1);
    Check.is("the pedal reads 13", y.isHeard(0), false);
  }

  private static void asideReadsNoneBeyond0() {
    Doc.says(", none beyond 0 and 15.");
    Perforatum x = Studio.withRun(15, 0, 2);
    Studio.punchRun(x, 14, 0, 2);
    x.load(0);
    x.aside(-1);
    x.tick(2);
    Check.is("no track of the row ahead", x.isOpen(0), false);
    x.aside(-2);
    x.tick(1);
    Check.refuses("nothing was opened", Check.ARITHMETIC, x::heardShare);
    // The tracks 13 and 14 read 11 and 12, not 13 and 14.
    Check.is("level by a", levelBy('a', 15, -2), 2);
    Check.is("level by c", levelBy('c', 15, -2), 3);
  }

  private static void asideReadsNoneBeyond15() {
    Doc.says(", none beyond 0 and 15.");
    // The track 14 would read a track 16, the row behind or the first tracks again.
    for (int track = 0; track < 3; track++) {
      Check.is("track " + track + " is not read as 16", levelBy('c', track, 2), 3);
    }
    Check.is("15 is read as 13", levelBy('c', 15, 2), 5);
    Check.is("15 is read as 14", levelBy('c', 15, 1), 1);
    Check.is("15 is read as 15", levelBy('c', 15, 0), 3);
  }

  /** The level behind two rows with holes at a track, the paper aside by s. */
  private static int levelBy(char maker, int track, int s) {
    Perforatum x = Studio.withRun(track, 0, 3);
    x.maker(maker);
    x.load(0);
    x.aside(s);
    x.tick(1);
    return x.level();
  }

  private static void asideRefusesWithoutPlaying() {
    Doc.says(22, Doc.NOT_PLAYED);
    for (int s = -2; s <= 2; s++) {
      int tracks = s;
      Studio.refuses(Studio.SILENT, Check.STATE, "aside", x -> x.aside(tracks));
    }
  }

  private static void asideRefusesOutOfRange() {
    Doc.says(22, OUT);
    for (int s : new int[] {-3, 3, 4, -16, 32, 34, -30, 256, MIN, MAX}) {
      Studio.refuses(Studio.PLAYING, Check.ARGUMENT, "aside " + s, x -> x.aside(s));
    }
  }

  private static void asideRefusesWithoutPlayingFirst() {
    Doc.says(Doc.FIRST);
    Studio.refuses(Studio.SILENT, Check.STATE, "aside", x -> x.aside(3));
    Studio.refuses(Studio.SILENT, Check.STATE, "aside", x -> x.aside(MIN));
  }

  private static void tickPlaysFrom1To100() {
    Doc.says(23, "- `rows`: 1 to 100");
    for (int rows : new int[] {1, 2, 99, 100}) {
      Perforatum x = Studio.withHoles(3, 0, 199);
      x.load(0);
      Check.is("tick", x.tick(rows), rows);
      Check.is("the next row", x.row(), rows);
    }
  }

  private static void tickRefusesWithoutPlaying() {
    Doc.says(23, Doc.NOT_PLAYED);
    Studio.refuses(Studio.SILENT, Check.STATE, "tick", x -> x.tick(1));
    Studio.refuses(Studio.SILENT, Check.STATE, "tick", x -> x.tick(100));
  }

  private static void tickRefusesOutOfRange() {
    Doc.says(23, OUT);
    for (int rows : new int[] {0, -1, 101, 102, 200, -100, 256, MIN, MAX}) {
      Studio.refuses(Studio.PLAYING, Check.ARGUMENT, "tick " + rows, x -> x.tick(rows));
    }
  }

  private static void tickRefusesWithoutPlayingFirst() {
    Doc.says(Doc.FIRST);
    Studio.refuses(Studio.SILENT, Check.STATE, "tick", x -> x.tick(0));
    Studio.refuses(Studio.SILENT, Check.STATE, "tick", x -> x.tick(101));
  }

  private static void tickPlaysUpToTheEnd() {
    Doc.says("Each row does this. First the holes are read:");
    Doc.says("Behind the last row of the roll playing ends:");
    for (int rows = 1; rows <= 4; rows++) {
      Perforatum x = Studio.withRun(3, 0, 2);
      x.load(0);
      Check.is("no more than there are", x.tick(rows), Math.min(rows, 3));
      Check.is("ended behind the last row", x.isPlaying(), rows < 3);
    }
    Perforatum y = Studio.withRun(3, 0, 2);
    y.load(0);
    y.tick(2);
    Check.is("the last row is played next", y.row(), 2);
    Check.is("the last row alone", y.tick(100), 1);
    Check.refuses("behind the end", Check.STATE, () -> y.tick(1));
  }

  private static void shortestAndLongestRollEnd() {
    Doc.says("Behind the last row of the roll playing ends:");
    Perforatum x = Studio.withHoles(0, 0);
    x.load(0);
    Check.is("a single row", x.tick(100), 1);
    Check.is("its end", x.isPlaying(), false);
    Check.is("its last row", x.sounding(0, 'l'), 0);
    Perforatum y = Studio.withHoles(0, 0, 199);
    y.load(0);
    Check.is("the first half", y.tick(100), 100);
    Check.is("up to the last row", y.tick(99), 99);
    Check.is("row 199", y.row(), 199);
    Check.is("row 199 is played", y.tick(1), 1);
    Check.is("its end", y.isPlaying(), false);
    Check.is("its last row", y.sounding(1, 'l'), 199);
  }

  private static void endClosesAllValves() {
    Doc.says("all valves close, and nothing rings on.");
    Perforatum x = Studio.withRun(12, 0, 9);
    x.punch(0, 2, 0, true);
    Studio.punchRun(x, 1, 8, 9);
    x.punch(0, 9, 2, true);
    x.load(0);
    x.tick(9);
    Check.is("one rings on", x.isHeard(0) && !x.isOpen(0), true);
    x.tick(1);
    for (int i = 0; i < 3; i++) {
      Check.is("sounding " + i + " ends", x.sounding(i, 'l'), 9);
    }
    x.punch(0, 2, 0, false);
    x.punch(0, 9, 15, true);
    x.load(0);
    x.tick(9);
    Check.is("played anew", x.soundings(), 1);
    Check.is("still heard", x.sounding(0, 'l'), -1);
  }

  private static void isPlayingBetweenLoadAndEnd() {
    Doc.says(24, "Returns whether so.");
    Perforatum x = new Perforatum();
    Check.is("empty studio", x.isPlaying(), false);
    x.roll();
    Check.is("empty roll", x.isPlaying(), false);
    x.punch(0, 1, 0, true);
    Check.is("not loaded", x.isPlaying(), false);
    x.load(0);
    Check.is("loaded", x.isPlaying(), true);
    x.tick(1);
    Check.is("in its middle", x.isPlaying(), true);
    x.tick(1);
    Check.is("behind its end", x.isPlaying(), false);
  }

  private static void rowRefusesWithoutPlaying() {
    Doc.says(25, Doc.NOT_PLAYED);
    Studio.refuses(Studio.SILENT, Check.STATE, "row", x -> x.row());
  }

  private static void suctionRefusesWithoutPlaying() {
    Doc.says(26, Doc.NOT_PLAYED);
    Studio.refuses(Studio.SILENT, Check.STATE, "suction", x -> x.suction());
  }

  private static void levelRefusesWithoutPlaying() {
    Doc.says(27, Doc.NOT_PLAYED);
    Studio.refuses(Studio.SILENT, Check.STATE, "level", x -> x.level());
  }

  /** Plays row by row; the level behind each row is due. */
  private static void dueLevels(Perforatum x, char maker, int... due) {
    x.maker(maker);
    x.punch(0, 199, 15, true);
    x.load(0);
    for (int row = 0; row < due.length; row++) {
      x.tick(1);
      Check.is("by " + maker + " level behind row " + row, x.level(), due[row]);
    }
  }

  private static void levelIs0To6() {
    Doc.says("Secondly the code makes the level, 0 to 6:");
    dueLevels(Studio.withHoles(13, 0), 'a', 4, 5, 6, 6, 6);
    dueLevels(Studio.withRolls(1), 'a', 2, 1, 0, 0, 0);
    dueLevels(Studio.withHoles(13, 0, 2, 4, 6, 8), 'b', 4, 4, 5, 5, 6, 6, 6, 6, 6);
    dueLevels(Studio.withHoles(14, 0, 2, 4, 6, 8), 'b', 2, 2, 1, 1, 0, 0, 0, 0, 0);
    dueLevels(Studio.withRun(13, 0, 3), 'c', 5, 6, 6, 6);
    dueLevels(Studio.withRun(14, 0, 3), 'c', 1, 0, 0, 0);
  }

  private static void makerALatchesAndReleases() {
    Doc.says("by 'a' a hole at 13 latches, one at 14 releases, both at once release; "
        + "the level is 1 more as long as it is latched, otherwise 1 less;");
    Perforatum x = Studio.withHoles(13, 1, 4, 6, 7);
    Studio.punchAt(x, 14, 3, 6);
    dueLevels(x, 'a', 2, 3, 4, 3, 4, 5, 4, 5, 6, 6);
    Perforatum y = Studio.withHoles(13, 0);
    y.punch(0, 0, 14, true);
    dueLevels(y, 'a', 2, 1, 0);
    Perforatum z = Studio.withHoles(14, 0, 2);
    z.punch(0, 1, 13, true);
    dueLevels(z, 'a', 2, 3, 2, 1);
  }

  private static void makerBLooksAtTheRowAhead() {
    Doc.says("by 'b' it is 1 more if a hole begins at 13, 1 less if one begins at 14, "
        + "that is, none was read in the row ahead;");
    dueLevels(Studio.withRun(13, 0, 3), 'b', 4, 4, 4, 4, 4);
    dueLevels(Studio.withRun(14, 0, 3), 'b', 2, 2, 2, 2, 2);
    dueLevels(Studio.withHoles(13, 1, 2, 4), 'b', 3, 4, 4, 4, 5, 5);
    // A hole at the one track is no matter for the other one.
    Perforatum x = Studio.withHoles(13, 0, 2);
    Studio.punchAt(x, 14, 1, 3);
    dueLevels(x, 'b', 4, 3, 4, 3, 3);
    // A row that was read with the paper aside is looked at as it was read.
    Perforatum y = Studio.withRun(13, 0, 9);
    y.maker('b');
    y.load(0);
    y.aside(1);
    y.tick(1);
    Check.is("none was read at 13", y.level(), 3);
    y.aside(0);
    y.tick(1);
    Check.is("so it begins", y.level(), 4);
  }

  private static void makerBCancelsBoth() {
    Doc.says("it is 1 more if a hole begins at 13, 1 less if one begins at 14");
    Perforatum x = Studio.withHoles(13, 0, 2);
    Studio.punchAt(x, 14, 0, 2);
    dueLevels(x, 'b', 3, 3, 3);
    Perforatum y = Studio.withHoles(13, 0, 1);
    Studio.punchAt(y, 14, 1);
    dueLevels(y, 'b', 4, 3, 3);
  }

  private static void makerCMovesByTwo() {
    Doc.says("by 'c' it is 2 more with a hole at 13, 2 less with one at 14, both together cancel;");
    Perforatum x = Studio.withHoles(13, 0, 1, 3, 5);
    Studio.punchAt(x, 14, 1, 2, 3, 4);
    dueLevels(x, 'c', 5, 5, 3, 3, 1, 3);
    Perforatum y = Studio.withHoles(14, 0, 1, 2);
    Studio.punchAt(y, 13, 1, 2);
    dueLevels(y, 'c', 1, 1, 1, 2, 3);
  }

  private static void makerCGoesTowards3() {
    Doc.says("without either it goes by 1 towards 3.");
    dueLevels(Studio.withRun(13, 0, 1), 'c', 5, 6, 5, 4, 3, 3, 3);
    dueLevels(Studio.withRun(14, 0, 1), 'c', 1, 0, 1, 2, 3, 3, 3);
    dueLevels(Studio.withRolls(1), 'c', 3, 3);
  }

  private static void suctionIs1000AtMost() {
    Doc.says("Fifthly the suction is more by the pump, 1000 at most");
    Perforatum x = Studio.withRun(0, 0, 9);
    x.punch(0, 40, 15, true);
    x.set('p', 300);
    x.set('k', 1);
    x.load(0);
    x.tick(1);
    Check.is("1000 at most, then less", x.suction(), 989);
    x.use(0, 0);
    x.set('k', 0);
    x.set('p', 10);
    x.tick(1);
    Check.is("one less than 1000", x.suction(), 999);
    x.tick(1);
    Check.is("1000", x.suction(), 1000);
    x.tick(1);
    Check.is("no more", x.suction(), 1000);
    x.use(0, 99);
    x.set('k', 99);
    x.tick(1);
    Check.is("less by both", x.suction(), 802);
  }

  private static void suctionIs0AtLeast() {
    Doc.says(", then less by the leak and by the uses of all valves that are open, 0 at least.");
    Perforatum x = Studio.withRolls(1);
    for (int note = 0; note < 12; note++) {
      x.note(0, 60, note);
      x.use(note, note < 10 ? 99 : 5);
    }
    x.arrange(0, false);
    x.set('p', 0);
    x.load(0);
    x.tick(1);
    Check.is("just 0", x.suction(), 0);
    x.load(0);
    x.use(11, 6);
    x.tick(1);
    Check.is("no less", x.suction(), 0);
    x.load(0);
    x.use(11, 4);
    x.tick(1);
    Check.is("one more than 0", x.suction(), 1);
    x.set('p', 300);
    x.tick(1);
    Check.is("0 again", x.suction(), 0);
    for (int note = 0; note < 12; note++) {
      x.use(note, 0);
    }
    x.tick(1);
    Check.is("more from 0", x.suction(), 300);
  }

  private static void suctionIsLessByOpenValvesOnly() {
    Doc.says("then less by the leak and by the uses of all valves that are open");
    Perforatum x = Studio.withHoles(0, 0);
    x.punch(0, 0, 1, true);
    x.punch(0, 0, 2, true);
    x.punch(0, 9, 15, true);
    x.set('p', 0);
    x.set('k', 7);
    x.set('l', 999);
    x.borrow(2, 1);
    x.valve(1, 5, 0);
    x.load(0);
    x.tick(1);
    Check.is("one sounds, one is open, one is borrowed", x.suction(), 1000 - 7 - 20);
    x.tick(1);
    Check.is("open by the gap", x.suction(), 1000 - 14 - 40);
    x.tick(1);
    Check.is("closed", x.suction(), 1000 - 21 - 40);
  }

  private static void tellingHoldsFromTheNextRowOn() {
    Doc.says("What is told while a roll is played holds from the next row on; punching, too.");
    Perforatum x = Studio.withRun(0, 0, 30);
    x.set('p', 0);
    x.valve(0, 5, 0);
    x.load(0);
    x.tick(1);
    x.use(0, 3);
    x.set('k', 1);
    x.maker('c');
    x.valve(0, 1, 0);
    Check.is("suction as it was", x.suction(), 990);
    Check.is("level as it was", x.level(), 2);
    Check.is("not heard yet", x.isHeard(0), false);
    x.tick(1);
    Check.is("suction by the new ones", x.suction(), 986);
    Check.is("level by the new one", x.level(), 3);
    Check.is("heard by the new delay", x.isHeard(0), true);
    x.borrow(0, 1);
    Check.is("open as it was", x.isOpen(0) && !x.isOpen(1), true);
    x.set('g', 0);
    x.tick(1);
    Check.is("closed by the new gap", x.isOpen(0), false);
    Check.is("open by the new borrowing", x.isOpen(1), true);
    Check.is("its last row", x.sounding(0, 'l'), 1);
  }

  private static void punchingHoldsFromTheNextRowOn() {
    Doc.says("What is told while a roll is played holds from the next row on; punching, too.");
    Perforatum x = Studio.withRun(0, 0, 5);
    x.set('g', 0);
    x.load(0);
    x.tick(3);
    x.punch(0, 2, 1, true);
    x.punch(0, 2, 0, false);
    Check.is("the row just played is gone by", x.isOpen(1), false);
    Check.is("and stays open", x.isOpen(0), true);
    x.punch(0, 3, 2, true);
    x.punch(0, 4, 0, false);
    x.tick(1);
    Check.is("the next row", x.isOpen(2), true);
    Check.is("still open", x.isOpen(0), true);
    x.tick(1);
    Check.is("mended in time", x.isOpen(0), false);
    x.copy(0);
    x.punch(1, 5, 5, true);
    x.punch(0, 7, 12, true);
    Check.is("longer by a hole behind", x.tick(100), 3);
    Check.is("no hole of a copy", x.soundings(), 3);
  }
}
