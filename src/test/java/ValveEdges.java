import java.util.List;

/** The edges of promises 16 to 20: what is told of the valves, and for all. */
final class ValveEdges {
  private static final int MIN = Integer.MIN_VALUE;
  private static final int MAX = Integer.MAX_VALUE;
  private static final int[] NO_NOTES = {-1, 12, 13, 15, 16, -12, MIN, MAX};

  private ValveEdges() {}

  static void run() {
    delayIsFrom0To5();
    restIsFrom0To9();
    bothAre0AtFirst();
    valveIsOfNotes0To11();
    valveRefusesNoSuchNote();
    valveRefusesNumbersOutOfRange();
    valveRefusesNoSuchNoteFirst();
    useIsFrom0To99();
    useIs10AtFirst();
    useIsOfNotes0To11();
    useRefusesNoSuchNote();
    useRefusesNumbersOutOfRange();
    useRefusesNoSuchNoteFirst();
    borrowedHolesOpenTheOthersValve();
    borrowIsOfNotes0To11();
    borrowAnswersTheNoteItself();
    borrowRefusesNoSuchNoteForEither();
    borrowRefusesABorrowedOther();
    borrowRefusesANoteThatIsLent();
    borrowFromItselfIsNeverRefused();
    borrowRefusesNoSuchNoteFirst();
    gapIsFrom0To3();
    leastSuctionIsFrom0To999();
    pumpIsFrom0To300();
    leakIsFrom0To99();
    setRefusesNoSuchThing();
    makerIsAAtFirst();
    makerRefusesNoSuchMaker();
  }

  private static void delayIsFrom0To5() {
    Doc.says("Valves. For each note are told a delay, 0 to 5");
    for (int delay = 0; delay <= 5; delay++) {
      Perforatum x = Studio.withRun(7, 0, 20);
      x.valve(7, delay, 0);
      x.load(0);
      x.tick(10);
      Check.is("sounds behind the delay", x.sounding(0, 'f'), delay);
      Check.is("answered then", x.valve(7, 0, 0), delay);
    }
    for (int delay : new int[] {-1, 6, 7, 9, 256, MIN, MAX}) {
      Studio.refuses(Studio.ANY, Check.ARGUMENT, "delay " + delay, x -> x.valve(1, delay, 0));
    }
  }

  private static void restIsFrom0To9() {
    Doc.says("and a rest, 0 to 9, in rows");
    for (int rest = 0; rest <= 9; rest++) {
      Perforatum x = Studio.withRun(7, 2, 20);
      x.punch(0, 0, 7, true);
      x.set('g', 0);
      x.valve(7, 0, rest);
      x.load(0);
      x.tick(20);
      // It is closed in row 1.
      Check.is("sounds behind the rest", x.sounding(1, 'f'), Math.max(2, 1 + rest));
    }
    for (int rest : new int[] {-1, 10, 11, 256, MIN, MAX}) {
      Studio.refuses(Studio.ANY, Check.ARGUMENT, "rest " + rest, x -> x.valve(1, 0, rest));
    }
  }

  private static void bothAre0AtFirst() {
    Doc.says(", both 0 at first");
    for (int note = 0; note < 12; note++) {
      Check.is("delay of " + note, new Perforatum().valve(note, 1, 0), 0);
      Perforatum x = Studio.withHoles(note, 0, 2, 9);
      x.set('g', 0);
      x.load(0);
      x.tick(3);
      Check.is("at its opening", x.sounding(0, 'f'), 0);
      Check.is("without a rest", x.sounding(1, 'f'), 2);
    }
  }

  private static void valveIsOfNotes0To11() {
    Doc.says(16, Doc.NOTE);
    Perforatum x = new Perforatum();
    for (int note = 0; note < 12; note++) {
      Check.is("tell " + note, x.valve(note, note % 6, 9), 0);
    }
    for (int note = 0; note < 12; note++) {
      Check.is("the delay before of " + note, x.valve(note, 0, 0), note % 6);
    }
  }

  private static void valveRefusesNoSuchNote() {
    Doc.says(16, Doc.NO_NOTE);
    for (int note : NO_NOTES) {
      Studio.refuses(Studio.ANY, Check.INDEX, "valve " + note, x -> x.valve(note, 1, 1));
    }
  }

  private static void valveRefusesNumbersOutOfRange() {
    Doc.says(16, "Throws `IllegalArgumentException` if a number is out of range");
    for (int[] v : new int[][] {{5, 10}, {6, 9}, {0, -1}, {-1, 0}, {6, 10}, {3, MAX}, {MIN, 3}}) {
      for (int note : new int[] {0, 7, 11}) {
        Studio.refuses(Studio.ANY, Check.ARGUMENT, "valve", x -> x.valve(note, v[0], v[1]));
      }
    }
  }

  private static void valveRefusesNoSuchNoteFirst() {
    Doc.says(Doc.FIRST);
    Studio.refuses(Studio.ANY, Check.INDEX, "valve", x -> x.valve(12, 6, 0));
    Studio.refuses(Studio.ANY, Check.INDEX, "valve", x -> x.valve(-1, 0, 10));
  }

  private static void useIsFrom0To99() {
    Doc.says("and a use, 0 to 99");
    for (int use : new int[] {0, 1, 98, 99}) {
      Perforatum x = Studio.withRun(7, 0, 3);
      x.use(7, use);
      x.load(0);
      x.tick(1);
      Check.is("less by the use", x.suction(), 1000 - use);
      Check.is("answered then", x.use(7, 0), use);
    }
    for (int use : new int[] {-1, 100, 101, 256, MIN, MAX}) {
      Studio.refuses(Studio.ANY, Check.ARGUMENT, "use " + use, x -> x.use(5, use));
    }
  }

  private static void useIs10AtFirst() {
    Doc.says(", 10 at first;");
    for (int note = 0; note < 12; note++) {
      Check.is("use of " + note, new Perforatum().use(note, 0), 10);
      Perforatum x = Studio.withRun(note, 0, 3);
      x.load(0);
      x.tick(1);
      Check.is("less by 10", x.suction(), 990);
    }
  }

  private static void useIsOfNotes0To11() {
    Doc.says(17, Doc.NOTE);
    Perforatum x = new Perforatum();
    for (int note = 0; note < 12; note++) {
      Check.is("tell " + note, x.use(note, 99 - note), 10);
    }
    for (int note = 0; note < 12; note++) {
      Check.is("the one before of " + note, x.use(note, 0), 99 - note);
    }
  }

  private static void useRefusesNoSuchNote() {
    Doc.says(17, Doc.NO_NOTE);
    for (int note : NO_NOTES) {
      Studio.refuses(Studio.ANY, Check.INDEX, "use of " + note, x -> x.use(note, 1));
    }
  }

  private static void useRefusesNumbersOutOfRange() {
    Doc.says(17, "Throws `IllegalArgumentException` if it is out of range");
    for (int note : new int[] {0, 5, 11}) {
      Studio.refuses(Studio.ANY, Check.ARGUMENT, "use", x -> x.use(note, 100));
      Studio.refuses(Studio.ANY, Check.ARGUMENT, "use", x -> x.use(note, -1));
    }
  }

  private static void useRefusesNoSuchNoteFirst() {
    Doc.says(Doc.FIRST);
    Studio.refuses(Studio.ANY, Check.INDEX, "use", x -> x.use(12, 100));
    Studio.refuses(Studio.ANY, Check.INDEX, "use", x -> x.use(-1, -1));
  }

  private static void borrowedHolesOpenTheOthersValve() {
    Doc.says("a note can be borrowed from another one: its holes open the valve of that one, not its own.");
    for (int[] pair : new int[][] {{0, 11}, {11, 0}, {4, 5}}) {
      Perforatum x = Studio.withRun(pair[0], 0, 3);
      x.borrow(pair[0], pair[1]);
      x.load(0);
      x.tick(1);
      for (int note = 0; note < 12; note++) {
        Check.is("open " + note, x.isOpen(note), note == pair[1]);
        Check.is("heard " + note, x.isHeard(note), note == pair[1]);
      }
      Check.is("the sounding's note", x.sounding(0, 'n'), pair[1]);
    }
    Perforatum y = Studio.withHoles(3, 0, 2);
    y.punch(0, 0, 4, true);
    y.punch(0, 5, 4, true);
    y.borrow(3, 4);
    y.set('g', 0);
    y.load(0);
    y.tick(5);
    Check.is("one valve for the holes of both", y.soundings(), 2);
    Check.is("its own holes, too", y.tick(1), 1);
    Check.is("three openings", y.soundings(), 3);
  }

  private static void borrowIsOfNotes0To11() {
    Doc.says(18, Doc.NOTE);
    for (int note = 0; note < 12; note++) {
      for (int other = 0; other < 12; other++) {
        Perforatum x = new Perforatum();
        Check.is("borrow", x.borrow(note, other), note);
        Check.is("borrowed", x.borrow(note, note), other);
      }
    }
  }

  private static void borrowAnswersTheNoteItself() {
    Doc.says(18, "Returns the one before, the note itself if it was not.");
    Perforatum x = new Perforatum();
    Check.is("not borrowed", x.borrow(11, 11), 11);
    Check.is("not borrowed yet", x.borrow(11, 0), 11);
    Check.is("borrowed from 0", x.borrow(11, 1), 0);
    Check.is("borrowed from 1", x.borrow(11, 1), 1);
    Check.is("borrowed from 1 still", x.borrow(11, 11), 1);
    Check.is("no longer", x.borrow(11, 11), 11);
  }

  private static void borrowRefusesNoSuchNoteForEither() {
    Doc.says(18, Doc.NO_NOTE + ", for either");
    for (int note : NO_NOTES) {
      Studio.refuses(Studio.ANY, Check.INDEX, "borrow " + note, x -> x.borrow(note, 0));
      Studio.refuses(Studio.ANY, Check.INDEX, "borrow from " + note, x -> x.borrow(0, note));
      Studio.refuses(Studio.ANY, Check.INDEX, "borrow both " + note, x -> x.borrow(note, note));
    }
  }

  private static void borrowRefusesABorrowedOther() {
    Doc.says(18, "Throws `UnsupportedOperationException` if the other one is another and is borrowed, "
        + "or some other one is borrowed from the note and the other one is not itself");
    // In these 3 is borrowed from 4.
    for (Studio.Start start : Studio.PLAYING) {
      for (int note : new int[] {0, 5, 11}) {
        Studio.refuses(List.of(start), Check.UNSUPPORTED, "borrow", x -> x.borrow(note, 3));
      }
    }
    Perforatum x = new Perforatum();
    x.borrow(11, 0);
    Check.refuses("from a borrowed one", Check.UNSUPPORTED, () -> x.borrow(1, 11));
    x.borrow(11, 11);
    Check.is("no longer borrowed", x.borrow(1, 11), 1);
  }

  private static void borrowRefusesANoteThatIsLent() {
    Doc.says(18, "Throws `UnsupportedOperationException` if the other one is another and is borrowed, "
        + "or some other one is borrowed from the note and the other one is not itself");
    for (Studio.Start start : Studio.PLAYING) {
      for (int other : new int[] {0, 3, 5, 11}) {
        Studio.refuses(List.of(start), Check.UNSUPPORTED, "borrow", x -> x.borrow(4, other));
      }
    }
    for (int note = 0; note < 12; note++) {
      int borrower = note;
      int lent = (borrower + 5) % 12;
      int other = (borrower + 1) % 12;
      Perforatum y = new Perforatum();
      y.borrow(borrower, lent);
      Check.refuses("lent to " + borrower, Check.UNSUPPORTED, () -> y.borrow(lent, other));
      Check.refuses("lent to it itself", Check.UNSUPPORTED, () -> y.borrow(lent, borrower));
      Check.is("the other one is free", y.borrow(other, lent), other);
    }
    Perforatum x = new Perforatum();
    x.borrow(11, 0);
    x.borrow(10, 0);
    Check.refuses("lent twice", Check.UNSUPPORTED, () -> x.borrow(0, 1));
    x.borrow(11, 11);
    Check.refuses("lent still", Check.UNSUPPORTED, () -> x.borrow(0, 1));
    x.borrow(10, 10);
    Check.is("no longer lent", x.borrow(0, 1), 0);
  }

  private static void borrowFromItselfIsNeverRefused() {
    Doc.says(18, "`int borrow(int note, int other) throws IndexOutOfBoundsException, "
        + "UnsupportedOperationException`: Lets a note be borrowed from another one, or from itself, "
        + "by which it is not borrowed.");
    Perforatum x = new Perforatum();
    x.borrow(3, 4);
    Check.is("one that is lent", x.borrow(4, 4), 4);
    Check.is("one that is borrowed", x.borrow(3, 3), 4);
    Check.is("one that is neither", x.borrow(5, 5), 5);
    Check.is("it may be borrowed from again", x.borrow(5, 3), 5);
  }

  private static void borrowRefusesNoSuchNoteFirst() {
    Doc.says(Doc.FIRST);
    Studio.refuses(Studio.PLAYING, Check.INDEX, "of a lent one", x -> x.borrow(4, 12));
    Studio.refuses(Studio.PLAYING, Check.INDEX, "from a borrowed one", x -> x.borrow(12, 3));
    Studio.refuses(Studio.PLAYING, Check.INDEX, "from a borrowed one", x -> x.borrow(-1, 3));
  }

  private static void setIsFrom(char what, int atFirst, int most) {
    Doc.says(19, "Throws `IllegalArgumentException` if there is no such thing, "
        + "or the number is out of range");
    Perforatum x = new Perforatum();
    Check.is("first " + what, x.set(what, 0), atFirst);
    Check.is("least " + what, x.set(what, most), 0);
    Check.is("most " + what, x.set(what, 1), most);
    Check.is("set " + what, x.set(what, most - 1), 1);
    Check.is("no other one than " + what, x.set(what == 'g' ? 'p' : 'g', 0), what == 'g' ? 100 : 1);
    Check.is("set again " + what, x.set(what, 0), most - 1);
    for (int number : new int[] {-1, most + 1, most + 2, 1000, 1 << 16, MIN, MAX}) {
      Studio.refuses(Studio.ANY, Check.ARGUMENT, "set " + what, y -> y.set(what, number));
    }
  }

  private static void gapIsFrom0To3() {
    Doc.says("For all are told a gap, 0 to 3, 1 at first;");
    setIsFrom('g', 1, 3);
  }

  private static void leastSuctionIsFrom0To999() {
    Doc.says("a least suction, 0 to 999, 0 at first;");
    setIsFrom('l', 0, 999);
  }

  private static void pumpIsFrom0To300() {
    Doc.says("a pump, 0 to 300, 100 at first;");
    setIsFrom('p', 100, 300);
  }

  private static void leakIsFrom0To99() {
    Doc.says("and a leak, 0 to 99, 0 at first.");
    setIsFrom('k', 0, 99);
  }

  private static void setRefusesNoSuchThing() {
    Doc.says(19, "Throws `IllegalArgumentException` if there is no such thing, "
        + "or the number is out of range");
    for (char what = 0; what < 512; what++) {
      char w = what;
      if ("glpk".indexOf(w) < 0) {
        Check.refuses("set " + (int) w, Check.ARGUMENT, () -> new Perforatum().set(w, 0));
      }
    }
    for (char what : new char[] {'G', 'a', 0, (char) ('g' + 256), Character.MAX_VALUE}) {
      Studio.refuses(Studio.ANY, Check.ARGUMENT, "set", x -> x.set(what, 1));
      Studio.refuses(Studio.ANY, Check.ARGUMENT, "set", x -> x.set(what, -1));
    }
  }

  private static void makerIsAAtFirst() {
    Doc.says("The maker is 'a' at first.");
    for (char maker = 'a'; maker <= 'c'; maker++) {
      Perforatum x = new Perforatum();
      Check.is("at first", x.maker(maker), 'a');
      Check.is("then", x.maker('b'), maker);
      Check.is("and then", x.maker('a'), 'b');
    }
  }

  private static void makerRefusesNoSuchMaker() {
    Doc.says(20, "Throws `IllegalArgumentException` if there is no such maker");
    for (char maker = 0; maker < 512; maker++) {
      char m = maker;
      if (m < 'a' || m > 'c') {
        Check.refuses("maker " + (int) m, Check.ARGUMENT, () -> new Perforatum().maker(m));
      }
    }
    for (char maker : new char[] {'`', 'd', 'A', 0, (char) ('a' + 256), Character.MAX_VALUE}) {
      Studio.refuses(Studio.ANY, Check.ARGUMENT, "maker", x -> x.maker(maker));
    }
  }
}
