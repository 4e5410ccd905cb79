/** Promises 1 to 9. */
public final class RollsTest {
  public static void main(String[] args) {
    newObject();
    rollsAreAdded();
    holesArePunched();
    holesRefuseWrongNumbers();
    lengthEndsWithTheLastHole();
    holesAreCounted();
    copiesAreLike();
    copyRefuses();
    unlikeCountsBothWays();
    parentIsTheFewestUnlike();
    Check.end("RollsTest");
  }

  private static void newObject() {
    Perforatum x = new Perforatum();
    Check.refuses("length(0) of nothing", Check.INDEX, () -> x.length(0));
    Check.is("wipe() of nothing", x.wipe(), 0);
    Check.is("isPlaying()", x.isPlaying(), false);
    Check.is("soundings()", x.soundings(), 0);
    Check.is("checksum()", x.checksum(), 7L);
    Check.is("isSound()", x.isSound(), true);
    Check.is("valve(0, 1, 1)", x.valve(0, 1, 1), 0);
    Check.is("use(11, 0)", x.use(11, 0), 10);
    Check.is("borrow(4, 4)", x.borrow(4, 4), 4);
    Check.is("set g", x.set('g', 0), 1);
    Check.is("set l", x.set('l', 1), 0);
    Check.is("set p", x.set('p', 0), 100);
    Check.is("set k", x.set('k', 1), 0);
    Check.is("maker", x.maker('b'), 'a');
    Check.is("speed", x.speed(100, 50), 400);
  }

  private static void rollsAreAdded() {
    Perforatum x = new Perforatum();
    for (int i = 0; i < 4; i++) {
      Check.is("roll()", x.roll(), i);
      Check.is("length of a new roll", x.length(i), 0);
    }
    Check.refuses("a fifth roll", Check.STATE, x::roll);
    Check.refuses("length(4)", Check.INDEX, () -> x.length(4));
  }

  private static void holesArePunched() {
    Perforatum x = new Perforatum();
    x.roll();
    x.roll();
    Check.is("punch anew", x.punch(0, 199, 15, true), false);
    Check.is("punch again", x.punch(0, 199, 15, true), true);
    Check.is("hole there", x.hole(0, 199, 15), true);
    Check.is("hole beside", x.hole(0, 199, 14), false);
    Check.is("hole ahead", x.hole(0, 198, 15), false);
    Check.is("hole of the other roll", x.hole(1, 199, 15), false);
    Check.is("mend", x.punch(0, 199, 15, false), true);
    Check.is("mend again", x.punch(0, 199, 15, false), false);
    Check.is("hole mended", x.hole(0, 199, 15), false);
    Check.is("punch first", x.punch(1, 0, 0, true), false);
    Check.is("hole first", x.hole(1, 0, 0), true);
  }

  private static void holesRefuseWrongNumbers() {
    Perforatum x = new Perforatum();
    Check.refuses("punch without rolls", Check.INDEX, () -> x.punch(0, 0, 0, true));
    x.roll();
    int[][] wrong = {{-1, 0}, {200, 0}, {0, -1}, {0, 16}, {Integer.MIN_VALUE, 3}, {3, 1 << 30}};
    for (int[] w : wrong) {
      Check.refuses("punch", Check.ARGUMENT, () -> x.punch(0, w[0], w[1], true));
      Check.refuses("hole", Check.ARGUMENT, () -> x.hole(0, w[0], w[1]));
      Check.refuses("punch, no roll first", Check.INDEX, () -> x.punch(1, w[0], w[1], true));
      Check.refuses("hole, no roll first", Check.INDEX, () -> x.hole(-1, w[0], w[1]));
    }
    Check.is("nothing was punched", x.checksum(), 7L);
  }

  private static void lengthEndsWithTheLastHole() {
    Perforatum x = new Perforatum();
    x.roll();
    x.punch(0, 0, 15, true);
    Check.is("length with row 0", x.length(0), 1);
    x.punch(0, 199, 3, true);
    Check.is("length with row 199", x.length(0), 200);
    x.punch(0, 199, 3, false);
    Check.is("length mended", x.length(0), 1);
    x.punch(0, 0, 15, false);
    Check.is("length without holes", x.length(0), 0);
    Check.refuses("length(-1)", Check.INDEX, () -> x.length(-1));
    Check.refuses("length(1)", Check.INDEX, () -> x.length(1));
  }

  private static void holesAreCounted() {
    Perforatum x = new Perforatum();
    x.roll();
    x.punch(0, 0, 15, true);
    x.punch(0, 7, 15, true);
    x.punch(0, 199, 15, true);
    x.punch(0, 7, 0, true);
    Check.is("holes at 15", x.holes(0, 15), 3);
    Check.is("holes at 0", x.holes(0, 0), 1);
    Check.is("holes at 14", x.holes(0, 14), 0);
    Check.refuses("holes at 16", Check.ARGUMENT, () -> x.holes(0, 16));
    Check.refuses("holes at -1", Check.ARGUMENT, () -> x.holes(0, -1));
    Check.refuses("holes of no roll", Check.INDEX, () -> x.holes(1, 16));
  }

  private static void copiesAreLike() {
    Perforatum x = new Perforatum();
    x.roll();
    x.punch(0, 5, 5, true);
    x.punch(0, 180, 13, true);
    Check.is("copy(0)", x.copy(0), 1);
    Check.is("a copy's hole", x.hole(1, 5, 5), true);
    Check.is("a copy's length", x.length(1), 181);
    Check.is("unlike its copy", x.unlike(0, 1), 0);
    x.punch(1, 5, 5, false);
    Check.is("the first keeps its hole", x.hole(0, 5, 5), true);
  }

  private static void copyRefuses() {
    Perforatum x = new Perforatum();
    Check.refuses("copy of nothing", Check.INDEX, () -> x.copy(0));
    x.roll();
    x.copy(0);
    x.copy(1);
    x.copy(0);
    Check.refuses("a fifth one", Check.STATE, () -> x.copy(0));
    Check.refuses("no such roll comes first", Check.INDEX, () -> x.copy(4));
    Check.is("still four", x.length(3), 0);
    Check.refuses("none more", Check.INDEX, () -> x.length(4));
  }

  private static void unlikeCountsBothWays() {
    Perforatum x = new Perforatum();
    x.roll();
    x.roll();
    x.punch(0, 1, 1, true);
    x.punch(0, 2, 2, true);
    x.punch(1, 2, 2, true);
    x.punch(1, 199, 15, true);
    x.punch(1, 0, 0, true);
    Check.is("unlike(0, 1)", x.unlike(0, 1), 3);
    Check.is("unlike(1, 0)", x.unlike(1, 0), 3);
    Check.is("unlike(1, 1)", x.unlike(1, 1), 0);
    Check.refuses("unlike(2, 0)", Check.INDEX, () -> x.unlike(2, 0));
    Check.refuses("unlike(0, 2)", Check.INDEX, () -> x.unlike(0, 2));
    Check.refuses("unlike(0, -1)", Check.INDEX, () -> x.unlike(0, -1));
  }

  private static void parentIsTheFewestUnlike() {
    Perforatum x = new Perforatum();
    x.roll();
    x.roll();
    x.roll();
    x.roll();
    x.punch(0, 0, 0, true);
    x.punch(1, 1, 1, true);
    x.punch(2, 0, 0, true);
    Check.is("parent(1)", x.parent(1), 0);
    Check.is("parent(2)", x.parent(2), 0);
    Check.is("of several the lowest", x.parent(3), 0);
    x.punch(3, 1, 1, true);
    Check.is("the nearest", x.parent(3), 1);
    x.punch(2, 0, 0, false);
    x.punch(2, 1, 1, true);
    x.punch(2, 9, 9, true);
    x.punch(3, 9, 9, true);
    Check.is("the one just ahead", x.parent(3), 2);
    Check.refuses("parent(0)", Check.ELEMENT, () -> x.parent(0));
    Check.refuses("parent(4)", Check.INDEX, () -> x.parent(4));
    Check.refuses("parent(-1)", Check.INDEX, () -> x.parent(-1));
    Check.refuses("parent of nothing", Check.INDEX, () -> new Perforatum().parent(0));
  }
}
