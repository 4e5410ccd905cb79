import java.util.ArrayList;
import java.util.Comparator;
import java.util.List;
import java.util.NoSuchElementException;
import java.util.TreeSet;

/** The document once more, in another way: the whole past of the playing is kept and looked at. */
final class Oracle {
  private record Note(int first, int length, int pitch) {}

  private static final class Sounding {
    int note;
    int opening;
    int first;
    int last = -1;
    int loud;
  }

  private final List<TreeSet<Integer>> rolls = new ArrayList<>();
  private final List<Note> music = new ArrayList<>();
  private final int[] delays = new int[12];
  private final int[] rests = new int[12];
  private final int[] uses = {10, 10, 10, 10, 10, 10, 10, 10, 10, 10, 10, 10};
  private final int[] sources = {0, 1, 2, 3, 4, 5, 6, 7, 8, 9, 10, 11};
  private final int[] told = {1, 0, 100, 0};
  private char maker = 'a';
  private int firstSpeed = 400;
  private int growth = 0;

  private TreeSet<Integer> played = null;
  private int row;
  private int suction;
  private int level;
  private int shift;
  private boolean latched;
  private final boolean[][] reads = new boolean[201][16];
  private final boolean[][] fed = new boolean[201][12];
  private final boolean[][] open = new boolean[201][12];
  private final Sounding[] heard = new Sounding[12];
  private final boolean[] speaking = new boolean[12];
  private List<Sounding> all = new ArrayList<>();
  private int openings = 0;

  private static void range(int number, int least, int most) {
    if (number < least || number > most) {
      throw new IllegalArgumentException();
    }
  }

  private TreeSet<Integer> get(int roll) {
    if (roll < 0 || roll >= rolls.size()) {
      throw new IndexOutOfBoundsException();
    }
    return rolls.get(roll);
  }

  private static void noteRange(int note) {
    if (note < 0 || note > 11) {
      throw new IndexOutOfBoundsException();
    }
  }

  int roll() {
    if (rolls.size() == 4) {
      throw new IllegalStateException();
    }
    rolls.add(new TreeSet<>());
    return rolls.size() - 1;
  }

  boolean punch(int roll, int row, int track, boolean is) {
    TreeSet<Integer> holes = get(roll);
    range(row, 0, 199);
    range(track, 0, 15);
    return is ? !holes.add(16 * row + track) : holes.remove(16 * row + track);
  }

  boolean hole(int roll, int row, int track) {
    TreeSet<Integer> holes = get(roll);
    range(row, 0, 199);
    range(track, 0, 15);
    return holes.contains(16 * row + track);
  }

  private static int lengthOf(TreeSet<Integer> holes) {
    return holes.isEmpty() ? 0 : holes.last() / 16 + 1;
  }

  int length(int roll) {
    return lengthOf(get(roll));
  }

  int holes(int roll, int track) {
    TreeSet<Integer> holes = get(roll);
    range(track, 0, 15);
    return (int) holes.stream().filter(h -> h % 16 == track).count();
  }

  int copy(int roll) {
    TreeSet<Integer> holes = get(roll);
    int number = roll();
    rolls.get(number).addAll(holes);
    return number;
  }

  int unlike(int one, int other) {
    TreeSet<Integer> a = new TreeSet<>(get(one));
    TreeSet<Integer> b = new TreeSet<>(get(other));
    a.removeAll(get(other));
    b.removeAll(get(one));
    return a.size() + b.size();
  }

  int parent(int roll) {
    get(roll);
    for (int unlike = 0; unlike <= 3200; unlike++) {
      for (int i = 0; i < roll; i++) {
        if (unlike(roll, i) == unlike) {
          return i;
        }
      }
      if (roll == 0) {
        break;
      }
    }
    throw new NoSuchElementException();
  }

  int note(int first, int length, int pitch) {
    range(first, 0, 199);
    range(length, 1, 60);
    range(pitch, 0, 11);
    range(first + length - 1, 0, 199);
    for (int row = first - 2; row < first + length + 2; row++) {
      for (Note n : music) {
        if (n.pitch == pitch && row >= n.first && row < n.first + n.length) {
          throw new UnsupportedOperationException();
        }
      }
    }
    if (music.size() == 40) {
      throw new IllegalStateException();
    }
    music.add(new Note(first, length, pitch));
    return music.size();
  }

  int wipe() {
    int before = music.size();
    music.clear();
    return before;
  }

  int arrange(int roll, boolean hasBridges) {
    TreeSet<Integer> holes = get(roll);
    holes.removeIf(h -> h % 16 < 12);
    int count = 0;
    for (Note n : music) {
      int run = 0;
      for (int row = n.first; row < n.first + n.length; row++) {
        boolean isLast = row == n.first + n.length - 1;
        if (hasBridges && run == 3 && !isLast) {
          run = 0;
        } else {
          holes.add(16 * row + n.pitch);
          run++;
          count++;
        }
      }
    }
    return count;
  }

  private List<Note> notesOf(TreeSet<Integer> holes) {
    List<Note> notes = new ArrayList<>();
    for (int pitch = 0; pitch < 12; pitch++) {
      int first = -1;
      int last = -9;
      for (int row = 0; row < 204; row++) {
        if (holes.contains(16 * row + pitch) && row < 200) {
          first = first < 0 ? row : first;
          last = row;
        } else if (first >= 0 && row - last > 1) {
          notes.add(new Note(first, last - first + 1, pitch));
          first = -1;
        }
      }
    }
    notes.sort(Comparator.comparingInt(Note::first).thenComparingInt(Note::pitch));
    return notes;
  }

  int scanned(int roll) {
    return notesOf(get(roll)).size();
  }

  int scan(int roll, int index, char what) {
    List<Note> notes = notesOf(get(roll));
    if ("flp".indexOf(what) < 0) {
      throw new IllegalArgumentException();
    }
    if (index < 0 || index >= notes.size()) {
      throw new NoSuchElementException();
    }
    Note n = notes.get(index);
    return what == 'f' ? n.first : what == 'l' ? n.length : n.pitch;
  }

  boolean isMusic(int roll) {
    List<Note> typed = new ArrayList<>(music);
    typed.sort(Comparator.comparingInt(Note::first).thenComparingInt(Note::pitch));
    return notesOf(get(roll)).equals(typed);
  }

  int valve(int note, int delay, int rest) {
    noteRange(note);
    range(delay, 0, 5);
    range(rest, 0, 9);
    int before = delays[note];
    delays[note] = delay;
    rests[note] = rest;
    return before;
  }

  int use(int note, int use) {
    noteRange(note);
    range(use, 0, 99);
    int before = uses[note];
    uses[note] = use;
    return before;
  }

  int borrow(int note, int other) {
    noteRange(note);
    noteRange(other);
    if (note != other) {
      boolean isBorrowed = sources[other] != other;
      for (int i = 0; i < 12; i++) {
        isBorrowed |= i != note && sources[i] == note;
      }
      if (isBorrowed) {
        throw new UnsupportedOperationException();
      }
    }
    int before = sources[note];
    sources[note] = other;
    return before;
  }

  int set(char what, int number) {
    int index = "glpk".indexOf(what);
    if (index < 0) {
      throw new IllegalArgumentException();
    }
    range(number, 0, new int[] {3, 999, 300, 99}[index]);
    int before = told[index];
    told[index] = number;
    return before;
  }

  char maker(char maker) {
    if ("abc".indexOf(maker) < 0) {
      throw new IllegalArgumentException();
    }
    char before = this.maker;
    this.maker = maker;
    return before;
  }

  int load(int roll) {
    TreeSet<Integer> holes = get(roll);
    played = holes.isEmpty() ? null : holes;
    row = 0;
    suction = 1000;
    level = 3;
    shift = 0;
    latched = false;
    for (int n = 0; n < 12; n++) {
      heard[n] = null;
      speaking[n] = false;
    }
    all = new ArrayList<>();
    openings = 0;
    return lengthOf(holes);
  }

  private void playing() {
    if (played == null) {
      throw new IllegalStateException();
    }
  }

  int aside(int tracks) {
    playing();
    range(tracks, -2, 2);
    int before = shift;
    shift = tracks;
    return before;
  }

  int tick(int rows) {
    playing();
    range(rows, 1, 100);
    int end = lengthOf(played);
    int count = Math.max(0, Math.min(rows, end - row));
    for (int i = 0; i < count; i++) {
      playOne();
      row++;
    }
    if (row >= end) {
      for (int n = 0; n < 12; n++) {
        silence(n);
      }
      played = null;
    }
    return count;
  }

  private void silence(int n) {
    if (heard[n] != null) {
      heard[n].last = row - 1;
    }
    heard[n] = null;
    speaking[n] = false;
  }

  private void playOne() {
    for (int t = 0; t < 16; t++) {
      int from = t + shift;
      reads[row][t] = from >= 0 && from < 16 && played.contains(16 * row + from);
    }
    code();
    boolean pedal = reads[row][12];
    for (int n = 0; n < 12; n++) {
      moveOne(n, pedal);
    }
    suction = Math.min(1000, suction + told[2]) - told[3];
    for (int n = 0; n < 12; n++) {
      suction -= open[row][n] ? uses[n] : 0;
    }
    suction = Math.max(0, suction);
  }

  private void code() {
    boolean more = reads[row][13];
    boolean less = reads[row][14];
    int by = 0;
    if (maker == 'a') {
      latched = !less && (more || latched);
      by = latched ? 1 : -1;
    }
    if (maker == 'b') {
      by += more && (row == 0 || !reads[row - 1][13]) ? 1 : 0;
      by -= less && (row == 0 || !reads[row - 1][14]) ? 1 : 0;
    }
    if (maker == 'c') {
      by = more == less ? 0 : more ? 2 : -2;
      if (!more && !less) {
        by = level < 3 ? 1 : level > 3 ? -1 : 0;
      }
    }
    level = Math.min(6, Math.max(0, level + by));
  }

  private void moveOne(int n, boolean pedal) {
    fed[row][n] = false;
    for (int t = 0; t < 12; t++) {
      fed[row][n] |= sources[t] == n && reads[row][t];
    }
    boolean was = row > 0 && open[row - 1][n];
    int without = 0;
    while (was && row - without >= 0 && !fed[row - without][n]) {
      without++;
    }
    open[row][n] = fed[row][n] || was && without <= told[0];
    if (open[row][n] && !was) {
      openings++;
    }
    if (!open[row][n]) {
      speaking[n] = false;
    }
    if (!speaking[n] && !pedal) {
      silence(n);
    }
    if (open[row][n] && !speaking[n] && suction >= told[1]
        && row >= openingOf(n) + delays[n] && row >= lastClosing(n) + rests[n]) {
      silence(n);
      Sounding s = new Sounding();
      s.note = n;
      s.opening = openingOf(n);
      s.first = row;
      s.loud = suction * (level + 1) / 70;
      heard[n] = s;
      speaking[n] = true;
      all.add(s);
    }
  }

  private int openingOf(int n) {
    int from = row;
    while (from > 0 && open[from - 1][n]) {
      from--;
    }
    return from;
  }

  private int lastClosing(int n) {
    for (int r = row; r > 0; r--) {
      if (!open[r][n] && open[r - 1][n]) {
        return r;
      }
    }
    return -99;
  }

  boolean isPlaying() {
    return played != null;
  }

  int row() {
    playing();
    return row;
  }

  int suction() {
    playing();
    return suction;
  }

  int level() {
    playing();
    return level;
  }

  boolean isOpen(int note) {
    playing();
    noteRange(note);
    return row > 0 && open[row - 1][note];
  }

  boolean isHeard(int note) {
    playing();
    noteRange(note);
    return heard[note] != null;
  }

  private List<Sounding> kept() {
    return all.subList(0, Math.min(300, all.size()));
  }

  int soundings() {
    return kept().size();
  }

  int sounding(int index, char what) {
    if ("noflv".indexOf(what) < 0) {
      throw new IllegalArgumentException();
    }
    if (index < 0 || index >= kept().size()) {
      throw new NoSuchElementException();
    }
    Sounding s = kept().get(index);
    return new int[] {s.note, s.opening, s.first, s.last, s.loud}["noflv".indexOf(what)];
  }

  int loudest() {
    if (all.isEmpty()) {
      throw new NoSuchElementException();
    }
    int most = kept().stream().mapToInt(s -> s.loud).max().getAsInt();
    int index = 0;
    while (kept().get(index).loud != most) {
      index++;
    }
    return index;
  }

  int speed(int first, int growth) {
    range(first, 100, 900);
    range(growth, 0, 50);
    int before = firstSpeed;
    firstSpeed = first;
    this.growth = growth;
    return before;
  }

  long time(int row) {
    range(row, 0, 200);
    return row == 0 ? 0 : time(row - 1) + 1000000 / (firstSpeed + (row - 1) * growth / 10);
  }

  long checksum() {
    long sum = 7;
    for (TreeSet<Integer> holes : rolls) {
      for (int h : holes) {
        sum = sum * 31 + h;
      }
    }
    for (Sounding s : kept()) {
      sum = ((sum * 31 + s.note) * 31 + s.first) * 31 + s.loud;
    }
    return sum;
  }

  float heardShare() {
    if (openings == 0) {
      throw new ArithmeticException();
    }
    return (float) all.size() / (float) openings;
  }

  double meanLoud() {
    if (all.isEmpty()) {
      throw new ArithmeticException();
    }
    return (double) kept().stream().mapToInt(s -> s.loud).sum() / (double) kept().size();
  }

  boolean isSound() {
    return true;
  }
}
