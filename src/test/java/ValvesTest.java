/** Promises 16 to 20. */
public final class ValvesTest {
  public static void main(String[] args) {
    valveTells();
    useTells();
    borrowTells();
    borrowRefusesChains();
    setTells();
    makerTells();
    Check.end("ValvesTest");
  }

  private static void valveTells() {
    Perforatum x = new Perforatum();
    Check.is("valve", x.valve(11, 5, 9), 0);
    Check.is("valve again", x.valve(11, 0, 0), 5);
    Check.is("another one", x.valve(0, 2, 0), 0);
    int[][] wrong = {{-1, 0}, {6, 0}, {0, -1}, {0, 10}};
    for (int[] w : wrong) {
      Check.refuses("valve", Check.ARGUMENT, () -> x.valve(0, w[0], w[1]));
      Check.refuses("no such note first", Check.INDEX, () -> x.valve(12, w[0], w[1]));
    }
    Check.refuses("valve of -1", Check.INDEX, () -> x.valve(-1, 0, 0));
    Check.is("nothing was changed", x.valve(0, 1, 1), 2);
  }

  private static void useTells() {
    Perforatum x = new Perforatum();
    Check.is("use", x.use(0, 99), 10);
    Check.is("use again", x.use(0, 0), 99);
    Check.is("another one", x.use(11, 1), 10);
    Check.refuses("use 100", Check.ARGUMENT, () -> x.use(0, 100));
    Check.refuses("use -1", Check.ARGUMENT, () -> x.use(0, -1));
    Check.refuses("no such note first", Check.INDEX, () -> x.use(12, 100));
    Check.refuses("use of -1", Check.INDEX, () -> x.use(-1, 1));
    Check.is("nothing was changed", x.use(0, 5), 0);
  }

  private static void borrowTells() {
    Perforatum x = new Perforatum();
    Check.is("borrow", x.borrow(0, 11), 0);
    Check.is("borrow from the same", x.borrow(0, 11), 11);
    Check.is("a second one from it", x.borrow(1, 11), 1);
    Check.is("from another one", x.borrow(0, 5), 11);
    Check.is("no longer", x.borrow(0, 0), 5);
    Check.is("as itself", x.borrow(0, 7), 0);
    Check.refuses("borrow(12, 0)", Check.INDEX, () -> x.borrow(12, 0));
    Check.refuses("borrow(0, 12)", Check.INDEX, () -> x.borrow(0, 12));
    Check.refuses("borrow(-1, 0)", Check.INDEX, () -> x.borrow(-1, 0));
    Check.refuses("borrow(0, -1)", Check.INDEX, () -> x.borrow(0, -1));
  }

  private static void borrowRefusesChains() {
    Perforatum x = new Perforatum();
    x.borrow(2, 3);
    Check.refuses("from a borrowed one", Check.UNSUPPORTED, () -> x.borrow(4, 2));
    Check.refuses("of one that is lent", Check.UNSUPPORTED, () -> x.borrow(3, 4));
    Check.refuses("of one that is lent, to its borrower", Check.UNSUPPORTED, () -> x.borrow(3, 2));
    Check.is("the lent one from itself", x.borrow(3, 3), 3);
    Check.is("the borrowed one from itself", x.borrow(2, 2), 3);
    Check.is("free again", x.borrow(3, 4), 3);
    Check.is("and then a lender", x.borrow(2, 4), 2);
  }

  private static void setTells() {
    Perforatum x = new Perforatum();
    char[] whats = {'g', 'l', 'p', 'k'};
    int[] mosts = {3, 999, 300, 99};
    int[] firsts = {1, 0, 100, 0};
    for (int i = 0; i < 4; i++) {
      char what = whats[i];
      int most = mosts[i];
      Check.is("set " + what, x.set(what, most), firsts[i]);
      Check.is("set again " + what, x.set(what, 0), most);
      Check.refuses("too much " + what, Check.ARGUMENT, () -> x.set(what, most + 1));
      Check.refuses("too little " + what, Check.ARGUMENT, () -> x.set(what, -1));
      Check.is("nothing was changed " + what, x.set(what, 1), 0);
    }
    Check.is("each is its own", x.set('g', 2), 1);
    Check.is("each is its own", x.set('l', 2), 1);
    Check.is("each is its own", x.set('p', 2), 1);
    Check.is("each is its own", x.set('k', 2), 1);
    Check.refuses("no such thing", Check.ARGUMENT, () -> x.set('a', 0));
    Check.refuses("no such thing", Check.ARGUMENT, () -> x.set((char) 0, 0));
  }

  private static void makerTells() {
    Perforatum x = new Perforatum();
    Check.is("maker b", x.maker('b'), 'a');
    Check.is("maker c", x.maker('c'), 'b');
    Check.refuses("maker d", Check.ARGUMENT, () -> x.maker('d'));
    Check.refuses("maker A", Check.ARGUMENT, () -> x.maker('A'));
    Check.is("maker a", x.maker('a'), 'c');
  }
}
