/** Promises 21 to 32. */
public final class PlayingTest {
  public static void main(String[] args) {
    loadBegins();
    loadOfEmptyRollIsNotPlayed();
    loadReplaces();
    nothingIsPlayed();
    asideMovesTheReading();
    tickPlaysUpToTheEnd();
    tickRefuses();
    punchingHoldsFromTheNextRow();
    mendedRollPlaysNoRowBehindItsEnd();
    mendedToNothingPlaysNoRow();
    mendedAtTheNextRowStillPlaysUpToIt();
    mendedAndPunchedAnewGoesOn();
    arrangedShorterPlaysNoRowBehindItsEnd();
    makerALatches();
    makerBCountsBeginnings();
    makerBRemembersWhatWasRead();
    makerCGoesToTheMiddle();
    gapKeepsOpen();
    delayHoldsBack();
    restHoldsBack();
    leastSuctionHoldsBack();
    suctionSagsAndRises();
    pedalRingsOn();
    pedalEndsWithNewSounding();
    borrowedHolesOpenTheLender();
    tellingHoldsFromTheNextRow();
    loudnessIsCut();
    soundingsAreOrdered();
    soundingRefuses();
    atMostThreeHundredAreKept();
    loudestIsTheFirst();
    openAndHeardRefuse();
    Check.end("PlayingTest");
  }

  /** A studio with one roll with holes at track from the first to the last row. */
  private static Perforatum withHoles(int track, int first, int last) {
    Perforatum x = new Perforatum();
    x.roll();
    punchAll(x, track, first, last);
    return x;
  }

  private static void punchAll(Perforatum x, int track, int first, int last) {
    for (int row = first; row <= last; row++) {
      x.punch(0, row, track, true);
    }
  }

  private static void dueSounding(Perforatum x, int index, int note, int opening, int first, int last) {
    Check.is("note of " + index, x.sounding(index, 'n'), note);
    Check.is("opening of " + index, x.sounding(index, 'o'), opening);
    Check.is("first of " + index, x.sounding(index, 'f'), first);
    Check.is("last of " + index, x.sounding(index, 'l'), last);
  }

  private static void loadBegins() {
    Perforatum x = withHoles(3, 2, 7);
    x.maker('c');
    Check.is("load", x.load(0), 8);
    Check.is("isPlaying", x.isPlaying(), true);
    Check.is("row", x.row(), 0);
    Check.is("suction", x.suction(), 1000);
    Check.is("level", x.level(), 3);
    Check.is("open", x.isOpen(3), false);
    Check.is("heard", x.isHeard(3), false);
    Check.is("aside", x.aside(0), 0);
    Check.refuses("load(1)", Check.INDEX, () -> x.load(1));
    Check.refuses("load(-1)", Check.INDEX, () -> x.load(-1));
    Check.is("still playing", x.isPlaying(), true);
  }

  private static void loadOfEmptyRollIsNotPlayed() {
    Perforatum x = withHoles(0, 0, 9);
    x.roll();
    x.load(0);
    x.tick(3);
    Check.is("soundings", x.soundings(), 1);
    Check.is("load empty", x.load(1), 0);
    Check.is("isPlaying", x.isPlaying(), false);
    Check.is("none of this one", x.soundings(), 0);
    Check.refuses("heardShare", Check.ARITHMETIC, x::heardShare);
  }

  private static void loadReplaces() {
    Perforatum x = withHoles(13, 0, 9);
    punchAll(x, 0, 0, 9);
    x.load(0);
    x.aside(2);
    x.tick(4);
    x.aside(0);
    x.tick(2);
    Check.is("latched", x.level(), 2);
    x.load(0);
    Check.is("row", x.row(), 0);
    Check.is("level", x.level(), 3);
    Check.is("suction", x.suction(), 1000);
    Check.is("soundings", x.soundings(), 0);
    Check.is("closed", x.isOpen(0), false);
    Check.is("silent", x.isHeard(0), false);
    x.punch(0, 0, 13, false);
    x.tick(1);
    Check.is("nothing latched", x.level(), 2);
    dueSounding(x, 0, 0, 0, 0, -1);
    x.aside(1);
    Check.is("aside before loading", x.aside(2), 1);
    x.load(0);
    Check.is("aside is 0 as it is loaded", x.aside(0), 0);
  }

  private static void nothingIsPlayed() {
    Perforatum x = withHoles(0, 0, 0);
    for (int i = 0; i < 2; i++) {
      Check.refuses("aside", Check.STATE, () -> x.aside(3));
      Check.refuses("tick", Check.STATE, () -> x.tick(0));
      Check.refuses("row", Check.STATE, x::row);
      Check.refuses("suction", Check.STATE, x::suction);
      Check.refuses("level", Check.STATE, x::level);
      Check.refuses("isOpen", Check.STATE, () -> x.isOpen(12));
      Check.refuses("isHeard", Check.STATE, () -> x.isHeard(-1));
      Check.is("isPlaying", x.isPlaying(), false);
      Check.is("soundings", x.soundings(), i);
      x.load(0);
      x.tick(1);
    }
  }

  private static void asideMovesTheReading() {
    for (int s = -2; s <= 2; s++) {
      Perforatum x = withHoles(15, 0, 2);
      punchAll(x, 0, 0, 2);
      punchAll(x, 6, 0, 2);
      x.load(0);
      Check.is("aside", x.aside(s), 0);
      x.tick(1);
      Check.is("aside again", x.aside(s), s);
      for (int note = 0; note < 12; note++) {
        Check.is("s " + s + " note " + note, x.isOpen(note), note == -s || note == 6 - s);
      }
      Check.is("s " + s + " level", x.level(), s == 2 ? 4 : 2);
      Check.refuses("aside 3", Check.ARGUMENT, () -> x.aside(3));
      Check.refuses("aside -3", Check.ARGUMENT, () -> x.aside(-3));
      Check.is("nothing was changed", x.aside(0), s);
    }
    Perforatum y = withHoles(15, 0, 2);
    y.load(0);
    y.aside(2);
    y.tick(1);
    Check.is("15 read at 13 latches", y.level(), 4);
    y.aside(1);
    y.tick(1);
    Check.is("15 read at 14 releases", y.level(), 3);
  }

  private static void tickPlaysUpToTheEnd() {
    Perforatum x = withHoles(5, 0, 150);
    x.load(0);
    Check.is("tick 100", x.tick(100), 100);
    Check.is("row", x.row(), 100);
    Check.is("tick 1", x.tick(1), 1);
    Check.is("tick 49", x.tick(49), 49);
    Check.is("at the last row", x.isPlaying(), true);
    Check.is("row 150", x.row(), 150);
    Check.is("the rest", x.tick(100), 1);
    Check.is("behind the last row", x.isPlaying(), false);
    dueSounding(x, 0, 5, 0, 0, 150);
    Perforatum y = withHoles(5, 199, 199);
    y.load(0);
    Check.is("tick", y.tick(100), 100);
    Check.is("tick to row 199", y.tick(100), 100);
    Check.is("ended", y.isPlaying(), false);
    dueSounding(y, 0, 5, 199, 199, 199);
    Check.is("load again", y.load(0), 200);
    Check.is("plays again", y.isPlaying(), true);
  }

  private static void tickRefuses() {
    Perforatum x = withHoles(5, 0, 9);
    x.load(0);
    Check.refuses("tick 0", Check.ARGUMENT, () -> x.tick(0));
    Check.refuses("tick 101", Check.ARGUMENT, () -> x.tick(101));
    Check.refuses("tick -1", Check.ARGUMENT, () -> x.tick(-1));
    Check.is("nothing was played", x.row(), 0);
  }

  private static void punchingHoldsFromTheNextRow() {
    Perforatum x = withHoles(5, 0, 3);
    x.load(0);
    x.tick(2);
    x.punch(0, 1, 7, true);
    x.punch(0, 2, 8, true);
    x.punch(0, 9, 12, true);
    Check.is("not yet", x.isOpen(8), false);
    x.tick(1);
    Check.is("gone by", x.isOpen(7), false);
    Check.is("in time", x.isOpen(8), true);
    Check.is("longer", x.tick(100), 7);
    dueSounding(x, 0, 5, 0, 0, 4);
    dueSounding(x, 1, 8, 2, 2, 3);
  }

  private static void mendedRollPlaysNoRowBehindItsEnd() {
    Perforatum x = withHoles(5, 0, 3);
    punchAll(x, 5, 5, 9);
    x.punch(0, 5, 12, true);
    x.load(0);
    x.tick(6);
    for (int row = 4; row < 10; row++) {
      x.punch(0, row, 5, false);
    }
    x.punch(0, 5, 12, false);
    Check.is("shorter than its next row", x.length(0), 4);
    Check.is("still playing", x.isPlaying(), true);
    Check.is("row", x.row(), 6);
    Check.is("still heard", x.isHeard(5), true);
    Check.is("still open", x.isOpen(5), true);
    int suction = x.suction();
    Check.refuses("tick 0", Check.ARGUMENT, () -> x.tick(0));
    Check.refuses("tick 101", Check.ARGUMENT, () -> x.tick(101));
    Check.is("nothing ended yet", x.sounding(0, 'l'), -1);
    Check.is("nor moved", x.suction(), suction);
    Check.is("no row left", x.tick(5), 0);
    Check.is("ended", x.isPlaying(), false);
    Check.refuses("tick behind the end", Check.STATE, () -> x.tick(1));
    Check.is("one sounding", x.soundings(), 1);
    dueSounding(x, 0, 5, 0, 0, 5);
    Check.is("sound", x.isSound(), true);
  }

  private static void mendedToNothingPlaysNoRow() {
    Perforatum x = withHoles(0, 0, 0);
    x.load(0);
    x.punch(0, 0, 0, false);
    Check.is("row 0", x.row(), 0);
    Check.is("suction of row 0", x.suction(), 1000);
    Check.is("level of row 0", x.level(), 3);
    Check.is("nothing to play", x.tick(1), 0);
    Check.is("nothing is played", x.isPlaying(), false);
    Check.refuses("no row", Check.STATE, x::row);
    Check.is("no sounding", x.soundings(), 0);
    Check.refuses("no opening", Check.ARITHMETIC, x::heardShare);
    x.punch(0, 0, 0, true);
    Check.is("punched behind its end", x.isPlaying(), false);
    Check.is("loaded anew", x.load(0), 1);
    Check.is("played anew", x.tick(100), 1);
  }

  private static void mendedAtTheNextRowStillPlaysUpToIt() {
    Perforatum x = withHoles(5, 0, 9);
    x.load(0);
    x.tick(4);
    for (int row = 5; row < 10; row++) {
      x.punch(0, row, 5, false);
    }
    Check.is("the next row is the last one", x.tick(100), 1);
    Check.is("it ended there", x.isPlaying(), false);
    dueSounding(x, 0, 5, 0, 0, 4);
    Perforatum y = withHoles(5, 0, 4);
    y.load(0);
    y.tick(4);
    y.punch(0, 4, 5, false);
    Check.is("the last row is the one played", y.tick(100), 0);
    Check.is("it ends behind it", y.isPlaying(), false);
    dueSounding(y, 0, 5, 0, 0, 3);
  }

  private static void mendedAndPunchedAnewGoesOn() {
    Perforatum x = withHoles(5, 0, 2);
    x.load(0);
    x.tick(2);
    x.punch(0, 2, 5, false);
    x.punch(0, 6, 5, true);
    Check.is("no end was reached", x.tick(100), 5);
    dueSounding(x, 0, 5, 0, 0, 2);
    dueSounding(x, 1, 5, 6, 6, 6);
  }

  private static void arrangedShorterPlaysNoRowBehindItsEnd() {
    Perforatum x = withHoles(5, 0, 9);
    x.note(1, 2, 5);
    x.load(0);
    x.tick(3);
    x.arrange(0, false);
    Check.is("row 3 of a roll of 3", x.row(), x.length(0));
    Check.is("no row of it is left", x.tick(1), 0);
    Check.is("so it ended", x.isPlaying(), false);
    dueSounding(x, 0, 5, 0, 0, 2);
  }

  private static void makerALatches() {
    Perforatum x = withHoles(13, 1, 1);
    x.punch(0, 8, 14, true);
    x.punch(0, 10, 13, true);
    x.punch(0, 12, 13, true);
    x.punch(0, 12, 14, true);
    x.punch(0, 20, 0, true);
    x.load(0);
    int[] due = {2, 3, 4, 5, 6, 6, 6, 6, 5, 4, 5, 6, 5, 4, 3, 2, 1, 0, 0, 0};
    for (int row = 0; row < due.length; row++) {
      x.tick(1);
      Check.is("a: level behind row " + row, x.level(), due[row]);
    }
  }

  private static void makerBCountsBeginnings() {
    Perforatum x = withHoles(13, 0, 2);
    x.maker('b');
    int[] more = {4, 6, 8, 10, 12, 31};
    int[] less = {12, 14, 15, 17, 19, 21, 23, 25, 27, 29, 31};
    for (int row : more) {
      x.punch(0, row, 13, true);
    }
    for (int row : less) {
      x.punch(0, row, 14, true);
    }
    x.punch(0, 33, 0, true);
    x.load(0);
    int[] due = {
      4, 4, 4, 4, 5, 5, 6, 6, 6, 6, 6, 6, 6, 6, 5, 5, 5, 4, 4, 3, 3, 2, 2, 1, 1, 0, 0, 0, 0, 0, 0,
      0, 0
    };
    for (int row = 0; row < due.length; row++) {
      x.tick(1);
      Check.is("b: level behind row " + row, x.level(), due[row]);
    }
  }

  private static void makerBRemembersWhatWasRead() {
    Perforatum x = withHoles(13, 0, 9);
    x.load(0);
    x.tick(1);
    Check.is("latched", x.level(), 4);
    x.maker('b');
    x.tick(1);
    Check.is("it was read by the other maker", x.level(), 4);
    x.aside(2);
    x.tick(1);
    x.aside(0);
    x.tick(1);
    Check.is("not read for a row, it begins anew", x.level(), 5);
    x.punch(0, 3, 13, false);
    x.tick(1);
    Check.is("mended behind its reading", x.level(), 5);
    x.maker('a');
    x.aside(2);
    x.tick(1);
    Check.is("still latched", x.level(), 6);
  }

  private static void makerCGoesToTheMiddle() {
    Perforatum x = withHoles(13, 0, 2);
    x.maker('c');
    x.punch(0, 4, 13, true);
    x.punch(0, 4, 14, true);
    punchAll(x, 14, 8, 10);
    x.punch(0, 12, 13, true);
    x.punch(0, 12, 14, true);
    x.punch(0, 30, 0, true);
    x.load(0);
    int[] due = {5, 6, 6, 5, 5, 4, 3, 3, 1, 0, 0, 1, 1, 2, 3, 3};
    for (int row = 0; row < due.length; row++) {
      x.tick(1);
      Check.is("c: level behind row " + row, x.level(), due[row]);
    }
  }

  private static void gapKeepsOpen() {
    for (int gap = 0; gap <= 3; gap++) {
      Perforatum x = withHoles(4, 2, 3);
      x.punch(0, 7, 4, true);
      x.punch(0, 20, 15, true);
      x.set('g', gap);
      x.load(0);
      for (int row = 0; row < 12; row++) {
        x.tick(1);
        boolean first = row >= 2 && row <= 3 + gap;
        boolean second = row >= 7 && row <= 7 + gap;
        Check.is("gap " + gap + " row " + row, x.isOpen(4), first || second);
        Check.is("heard " + gap + " row " + row, x.isHeard(4), first || second);
      }
      Check.is("soundings", x.soundings(), gap < 3 ? 2 : 1);
      Check.is("last", x.sounding(0, 'l'), gap < 3 ? 3 + gap : 10);
    }
  }

  private static void delayHoldsBack() {
    for (int delay = 0; delay <= 5; delay++) {
      Perforatum x = withHoles(11, 1, 4);
      x.punch(0, 9, 0, true);
      x.valve(11, delay, 0);
      x.load(0);
      x.tick(100);
      if (delay < 5) {
        dueSounding(x, 0, 11, 1, 1 + delay, 5);
      }
      Check.is("soundings " + delay, x.soundings(), delay < 5 ? 2 : 1);
      Check.is("share " + delay, x.heardShare(), delay < 5 ? 1f : 0.5f);
    }
  }

  private static void restHoldsBack() {
    Perforatum x = withHoles(2, 0, 1);
    punchAll(x, 2, 4, 20);
    x.set('g', 0);
    x.valve(2, 1, 9);
    x.load(0);
    x.tick(100);
    Check.is("soundings", x.soundings(), 2);
    dueSounding(x, 0, 2, 0, 1, 1);
    dueSounding(x, 1, 2, 4, 11, 20);
    x.valve(2, 5, 2);
    x.load(0);
    x.tick(100);
    Check.is("soundings", x.soundings(), 1);
    dueSounding(x, 0, 2, 4, 9, 20);
  }

  private static void leastSuctionHoldsBack() {
    Perforatum x = withHoles(0, 0, 0);
    punchAll(x, 1, 1, 9);
    x.set('g', 0);
    x.set('l', 999);
    x.set('p', 4);
    x.use(0, 20);
    x.use(1, 0);
    x.load(0);
    x.tick(1);
    Check.is("980", x.suction(), 980);
    x.tick(5);
    Check.is("1000", x.suction(), 1000);
    Check.is("not yet", x.isHeard(1), false);
    x.tick(1);
    Check.is("enough", x.isHeard(1), true);
    dueSounding(x, 1, 1, 1, 6, -1);
    x.set('l', 980);
    x.load(0);
    x.tick(2);
    dueSounding(x, 1, 1, 1, 1, -1);
  }

  private static void suctionSagsAndRises() {
    Perforatum x = withHoles(0, 0, 5);
    punchAll(x, 1, 0, 5);
    x.punch(0, 60, 15, true);
    x.set('p', 5);
    x.set('k', 99);
    x.use(0, 99);
    x.use(1, 50);
    x.load(0);
    int due = 1000;
    for (int row = 0; row < 12; row++) {
      x.tick(1);
      due = Math.min(1000, due + 5) - 99 - (row <= 6 ? 149 : 0);
      due = Math.max(0, due);
      Check.is("suction behind row " + row, x.suction(), due);
    }
    Check.is("0 at least", x.suction(), 0);
    x.set('p', 300);
    x.tick(1);
    Check.is("rising", x.suction(), 201);
    x.tick(9);
    Check.is("1000 at most, then less", x.suction(), 901);
  }

  private static void pedalRingsOn() {
    Perforatum x = withHoles(7, 2, 3);
    punchAll(x, 12, 4, 8);
    punchAll(x, 3, 0, 1);
    x.punch(0, 12, 12, true);
    x.punch(0, 20, 15, true);
    x.set('g', 0);
    x.load(0);
    for (int row = 0; row < 14; row++) {
      x.tick(1);
      Check.is("open behind row " + row, x.isOpen(7), row == 2 || row == 3);
      Check.is("heard behind row " + row, x.isHeard(7), row >= 2 && row <= 8);
      Check.is("without the pedal " + row, x.isHeard(3), row <= 1);
      if (row == 8) {
        Check.is("still heard", x.sounding(1, 'l'), -1);
      }
    }
    dueSounding(x, 0, 3, 0, 0, 1);
    dueSounding(x, 1, 7, 2, 2, 8);
    Perforatum y = withHoles(7, 2, 3);
    punchAll(y, 12, 4, 9);
    y.load(0);
    y.tick(100);
    dueSounding(y, 0, 7, 2, 2, 9);
  }

  private static void pedalEndsWithNewSounding() {
    Perforatum x = withHoles(7, 0, 1);
    punchAll(x, 12, 0, 20);
    punchAll(x, 7, 6, 9);
    x.set('g', 0);
    x.valve(7, 2, 0);
    x.load(0);
    x.tick(1);
    x.valve(7, 0, 0);
    x.tick(1);
    x.valve(7, 2, 0);
    x.tick(5);
    Check.is("opened anew", x.isOpen(7), true);
    Check.is("rings on", x.isHeard(7), true);
    Check.is("one sounding", x.soundings(), 1);
    x.tick(2);
    Check.is("two soundings", x.soundings(), 2);
    dueSounding(x, 0, 7, 0, 1, 7);
    dueSounding(x, 1, 7, 6, 8, -1);
    x.punch(0, 12, 12, false);
    x.tick(6);
    Check.is("both ended", x.sounding(1, 'l'), 11);
    x.load(0);
    x.valve(7, 0, 0);
    x.tick(4);
    x.punch(0, 7, 12, false);
    x.valve(7, 5, 0);
    x.tick(4);
    Check.is("open, but the pedal went up", x.isHeard(7), false);
    dueSounding(x, 0, 7, 0, 0, 6);
  }

  private static void borrowedHolesOpenTheLender() {
    Perforatum x = withHoles(1, 0, 2);
    punchAll(x, 4, 2, 3);
    punchAll(x, 9, 0, 0);
    x.borrow(1, 4);
    x.set('g', 0);
    x.load(0);
    for (int row = 0; row < 4; row++) {
      x.tick(1);
      if (row < 3) {
        Check.is("its own valve", x.isOpen(1), false);
        Check.is("the lender's valve", x.isOpen(4), true);
        Check.is("another valve", x.isOpen(9), row == 0);
      }
    }
    Check.is("two soundings", x.soundings(), 2);
    dueSounding(x, 0, 4, 0, 0, 3);
    dueSounding(x, 1, 9, 0, 0, 0);
    x.borrow(1, 1);
    x.load(0);
    x.tick(1);
    Check.is("its own again", x.isOpen(1), true);
    Check.is("not the lender's", x.isOpen(4), false);
    x.borrow(1, 4);
    Check.is("not yet", x.isOpen(4), false);
    x.tick(1);
    Check.is("from the next row on", x.isOpen(4), true);
    Check.is("closed", x.isOpen(1), false);
  }

  private static void tellingHoldsFromTheNextRow() {
    Perforatum x = withHoles(1, 0, 0);
    x.punch(0, 9, 15, true);
    x.set('g', 3);
    x.load(0);
    x.tick(3);
    Check.is("open by the gap", x.isOpen(1), true);
    x.set('g', 1);
    Check.is("still open", x.isOpen(1), true);
    x.tick(1);
    Check.is("closed by the new gap", x.isOpen(1), false);
    dueSounding(x, 0, 1, 0, 0, 2);
    x.use(1, 99);
    Check.is("suction as it was", x.suction(), 1000);
    x.maker('c');
    Check.is("level as it was", x.level(), 0);
    x.tick(1);
    Check.is("level by c", x.level(), 1);
  }

  private static void loudnessIsCut() {
    Perforatum x = withHoles(0, 0, 9);
    punchAll(x, 13, 0, 9);
    x.punch(0, 2, 1, true);
    x.punch(0, 4, 2, true);
    x.punch(0, 6, 3, true);
    x.set('p', 0);
    x.set('k', 7);
    x.load(0);
    x.tick(100);
    // Suctions 1000, 966, 912, 858; levels 4, 6, 6, 6.
    int[] due = {71, 96, 91, 85};
    for (int i = 0; i < due.length; i++) {
      Check.is("loudness " + i, x.sounding(i, 'v'), due[i]);
    }
  }

  private static void soundingsAreOrdered() {
    Perforatum x = withHoles(0, 0, 9);
    punchAll(x, 11, 0, 9);
    punchAll(x, 5, 0, 9);
    x.punch(0, 1, 2, true);
    x.valve(0, 2, 0);
    x.load(0);
    x.tick(100);
    Check.is("soundings", x.soundings(), 4);
    dueSounding(x, 0, 5, 0, 0, 9);
    dueSounding(x, 1, 11, 0, 0, 9);
    dueSounding(x, 2, 2, 1, 1, 2);
    dueSounding(x, 3, 0, 0, 2, 9);
  }

  private static void soundingRefuses() {
    Perforatum x = withHoles(0, 0, 0);
    Check.refuses("no such thing first", Check.ARGUMENT, () -> x.sounding(0, 'p'));
    Check.refuses("none", Check.ELEMENT, () -> x.sounding(0, 'n'));
    x.load(0);
    x.tick(1);
    Check.is("one", x.sounding(0, 'n'), 0);
    Check.refuses("index 1", Check.ELEMENT, () -> x.sounding(1, 'n'));
    Check.refuses("index -1", Check.ELEMENT, () -> x.sounding(-1, 'v'));
    Check.refuses("no such thing", Check.ARGUMENT, () -> x.sounding(0, 'N'));
  }

  /** Bridged music whose valves close at each bridge: more than 300 soundings. */
  private static void atMostThreeHundredAreKept() {
    Perforatum x = new Perforatum();
    x.roll();
    int notes = 0;
    for (int pitch = 0; pitch < 12 && notes < 36; pitch++) {
      for (int k = 0; k < 3; k++) {
        notes = x.note(k * 62, 60, pitch);
      }
    }
    x.arrange(0, true);
    x.set('g', 0);
    x.set('p', 300);
    x.load(0);
    x.tick(100);
    x.tick(7);
    Check.is("300 are kept", x.soundings(), 300);
    Check.is("all are open", x.isOpen(11), true);
    Check.is("further ones sound", x.isHeard(11), true);
    Check.is("the last one", x.sounding(299, 'n'), 11);
    Check.is("it has ended", x.sounding(299, 'l'), x.sounding(299, 'f') + 2);
    Check.refuses("no 301st", Check.ELEMENT, () -> x.sounding(300, 'n'));
    Check.is("all of them", x.heardShare(), 1f);
    x.set('l', 999);
    x.set('p', 0);
    x.tick(100);
    Check.is("still 300", x.soundings(), 300);
    // 27 openings of each note sounded up to row 106; 18 more came behind it, but in silence.
    Check.is("a share", x.heardShare(), (float) (27 * 12) / (float) (45 * 12));
    Check.is("isSound", x.isSound(), true);
  }

  private static void loudestIsTheFirst() {
    Perforatum x = withHoles(0, 0, 0);
    Check.refuses("none", Check.ELEMENT, x::loudest);
    x.punch(0, 1, 1, true);
    x.punch(0, 1, 13, true);
    x.punch(0, 3, 2, true);
    x.punch(0, 3, 3, true);
    x.punch(0, 4, 14, true);
    x.punch(0, 6, 4, true);
    x.load(0);
    Check.refuses("none yet", Check.ELEMENT, x::loudest);
    x.tick(2);
    Check.is("the second", x.loudest(), 1);
    x.tick(100);
    Check.is("of several the first", x.loudest(), 2);
    x.load(0);
    Check.refuses("none anew", Check.ELEMENT, x::loudest);
  }

  private static void openAndHeardRefuse() {
    Perforatum x = withHoles(0, 0, 3);
    x.load(0);
    Check.refuses("isOpen(12)", Check.INDEX, () -> x.isOpen(12));
    Check.refuses("isOpen(-1)", Check.INDEX, () -> x.isOpen(-1));
    Check.refuses("isHeard(12)", Check.INDEX, () -> x.isHeard(12));
    Check.refuses("isHeard(-1)", Check.INDEX, () -> x.isHeard(-1));
    Check.is("isOpen(11)", x.isOpen(11), false);
    Check.is("isHeard(11)", x.isHeard(11), false);
  }
}
