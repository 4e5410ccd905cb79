import java.util.NoSuchElementException;

/** A studio of self-playing pianos: rolls, music, valves and what is heard of them. */
public final class Perforatum {
  private static final int MOST_ROLLS = 4;
  private static final int ROWS = 200;
  private static final int TRACKS = 16;
  private static final int PITCHES = 12;
  private static final int PITCH_BITS = 0xFFF;
  private static final int TRACK_BITS = 0xFFFF;
  private static final int PEDAL_TRACK = 12;
  private static final int MORE_TRACK = 13;
  private static final int LESS_TRACK = 14;
  private static final int MOST_NOTES = 40;
  private static final int LONGEST_NOTE = 60;
  private static final int BRIDGE_STEP = 4;
  private static final int LEAST_APART = 2;
  private static final int MOST_DELAY = 5;
  private static final int MOST_REST = 9;
  private static final int MOST_USE = 99;
  private static final int FIRST_USE = 10;
  private static final int MOST_GAP = 3;
  private static final int MOST_LEAST_SUCTION = 999;
  private static final int MOST_PUMP = 300;
  private static final int MOST_LEAK = 99;
  private static final int MOST_SUCTION = 1000;
  private static final int MOST_LEVEL = 6;
  private static final int MIDDLE_LEVEL = 3;
  private static final int LOUDNESS_DIVISOR = 70;
  private static final int MOST_ASIDE = 2;
  private static final int MOST_TICKS = 100;
  private static final int MOST_SOUNDINGS = 300;
  private static final int NO_SOUNDING = -1;
  private static final int STILL_HEARD = -1;
  private static final int NO_ROLL = -1;
  private static final int NO_NOTE = -1;
  // So far below row 0 that no rest reaches up to it.
  private static final int NEVER_CLOSED = -1000;
  private static final int SLOWEST = 100;
  private static final int FASTEST = 900;
  private static final int MOST_GROWTH = 50;
  private static final int GROWTH_DIVISOR = 10;
  private static final int ROW_WAY = 1000000;

  private final Paper[] papers = new Paper[MOST_ROLLS];
  private final Music music = new Music();
  private final Player player = new Player();
  private final Settings settings = player.settings;
  private final Valve[] valves = player.valves;
  private final SoundingLog log = player.log;
  private int paperCount = 0;
  private int arrangedRoll = NO_ROLL;
  private int firstSpeed = 400;
  private int growth = 0;

  public Perforatum() {
    for (int i = 0; i < MOST_ROLLS; i++) {
      papers[i] = new Paper();
    }
  }

  // ---- Rolls

  public int roll() throws IllegalStateException {
    demandRoomForRoll();
    return addRoll();
  }

  public boolean punch(int roll, int row, int track, boolean is)
      throws IndexOutOfBoundsException, IllegalArgumentException {
    Paper paper = demandPaper(roll);
    demandWithin(row, 0, ROWS - 1);
    demandWithin(track, 0, TRACKS - 1);
    boolean was = paper.hasHole(row, track);
    if (was != is) {
      paper.putHole(row, track, is);
      forgetArrangementOf(roll);
    }
    return was;
  }

  public boolean hole(int roll, int row, int track)
      throws IndexOutOfBoundsException, IllegalArgumentException {
    Paper paper = demandPaper(roll);
    demandWithin(row, 0, ROWS - 1);
    demandWithin(track, 0, TRACKS - 1);
    return paper.hasHole(row, track);
  }

  public int length(int roll) throws IndexOutOfBoundsException {
    return demandPaper(roll).countRows();
  }

  public int holes(int roll, int track) throws IndexOutOfBoundsException, IllegalArgumentException {
    Paper paper = demandPaper(roll);
    demandWithin(track, 0, TRACKS - 1);
    return paper.countHoles(1 << track);
  }

  public int copy(int roll) throws IndexOutOfBoundsException, IllegalStateException {
    Paper paper = demandPaper(roll);
    demandRoomForRoll();
    int number = addRoll();
    demandPaper(number).takeHolesOf(paper);
    return number;
  }

  public int unlike(int one, int other) throws IndexOutOfBoundsException {
    Paper paper = demandPaper(one);
    return paper.countUnlike(demandPaper(other));
  }

  public int parent(int roll) throws IndexOutOfBoundsException, NoSuchElementException {
    Paper paper = demandPaper(roll);
    if (roll == 0) {
      throw new NoSuchElementException("no roll has a lower number");
    }
    int best = 0;
    int fewest = paper.countUnlike(demandPaper(0));
    for (int i = 1; i < roll; i++) {
      int count = paper.countUnlike(demandPaper(i));
      if (count < fewest) {
        best = i;
        fewest = count;
      }
    }
    return best;
  }

  // ---- Music

  public int note(int first, int length, int pitch)
      throws IllegalArgumentException, UnsupportedOperationException, IllegalStateException {
    demandWithin(first, 0, ROWS - 1);
    demandWithin(length, 1, LONGEST_NOTE);
    demandWithin(pitch, 0, PITCHES - 1);
    demandWithin(first + length - 1, 0, ROWS - 1);
    if (music.isTooNear(first, length, pitch)) {
      throw new UnsupportedOperationException("too near to another note of its pitch");
    }
    if (music.isFull()) {
      throw new IllegalStateException("40 notes are typed already");
    }
    arrangedRoll = NO_ROLL;
    return music.type(first, length, pitch);
  }

  public int wipe() {
    arrangedRoll = NO_ROLL;
    return music.forgetAll();
  }

  public int arrange(int roll, boolean hasBridges) throws IndexOutOfBoundsException {
    Paper paper = demandPaper(roll);
    paper.mendPitches();
    music.punchInto(paper, hasBridges);
    arrangedRoll = roll;
    return paper.countHoles(PITCH_BITS);
  }

  public int scanned(int roll) throws IndexOutOfBoundsException {
    return demandPaper(roll).countNotes();
  }

  public int scan(int roll, int index, char what)
      throws IndexOutOfBoundsException, IllegalArgumentException, NoSuchElementException {
    Paper paper = demandPaper(roll);
    if (what != 'f' && what != 'l' && what != 'p') {
      throw new IllegalArgumentException("a note has no such thing");
    }
    int place = paper.findNote(index);
    if (place == NO_NOTE) {
      throw new NoSuchElementException("no such note");
    }
    int first = place / TRACKS;
    int pitch = place % TRACKS;
    if (what == 'f') {
      return first;
    }
    return what == 'p' ? pitch : paper.measureNote(first, pitch);
  }

  public boolean isMusic(int roll) throws IndexOutOfBoundsException {
    return music.isScannedFrom(demandPaper(roll));
  }

  // ---- Valves

  public int valve(int note, int delay, int rest)
      throws IndexOutOfBoundsException, IllegalArgumentException {
    Valve valve = demandValve(note);
    demandWithin(delay, 0, MOST_DELAY);
    demandWithin(rest, 0, MOST_REST);
    int before = valve.delay;
    valve.delay = delay;
    valve.rest = rest;
    return before;
  }

  public int use(int note, int use) throws IndexOutOfBoundsException, IllegalArgumentException {
    Valve valve = demandValve(note);
    demandWithin(use, 0, MOST_USE);
    int before = valve.use;
    valve.use = use;
    return before;
  }

  public int borrow(int note, int other)
      throws IndexOutOfBoundsException, UnsupportedOperationException {
    Valve valve = demandValve(note);
    Valve lender = demandValve(other);
    if (other != note && (lender.lender != other || isLentToAnother(note))) {
      throw new UnsupportedOperationException("borrowed notes make no chains");
    }
    int before = valve.lender;
    valve.lender = other;
    return before;
  }

  public int set(char what, int number) throws IllegalArgumentException {
    int most = settings.findMost(what);
    if (most < 0) {
      throw new IllegalArgumentException("no such thing is told for all");
    }
    demandWithin(number, 0, most);
    return settings.exchange(what, number);
  }

  public char maker(char maker) throws IllegalArgumentException {
    if (maker != 'a' && maker != 'b' && maker != 'c') {
      throw new IllegalArgumentException("no such maker");
    }
    char before = settings.maker;
    settings.maker = maker;
    return before;
  }

  // ---- Playing

  public int load(int roll) throws IndexOutOfBoundsException {
    Paper paper = demandPaper(roll);
    player.begin(paper);
    return paper.countRows();
  }

  public int aside(int tracks) throws IllegalStateException, IllegalArgumentException {
    demandPlaying();
    demandWithin(tracks, -MOST_ASIDE, MOST_ASIDE);
    int before = player.shift;
    player.shift = tracks;
    return before;
  }

  public int tick(int rows) throws IllegalStateException, IllegalArgumentException {
    demandPlaying();
    demandWithin(rows, 1, MOST_TICKS);
    return player.playRows(rows);
  }

  public boolean isPlaying() {
    return player.isBusy();
  }

  public int row() throws IllegalStateException {
    demandPlaying();
    return player.nextRow;
  }

  public int suction() throws IllegalStateException {
    demandPlaying();
    return player.vacuum;
  }

  public int level() throws IllegalStateException {
    demandPlaying();
    return player.strength;
  }

  public boolean isOpen(int note) throws IllegalStateException, IndexOutOfBoundsException {
    demandPlaying();
    return demandValve(note).stands;
  }

  public boolean isHeard(int note) throws IllegalStateException, IndexOutOfBoundsException {
    demandPlaying();
    return demandValve(note).isAudible();
  }

  public int soundings() {
    return log.count;
  }

  public int sounding(int index, char what)
      throws IllegalArgumentException, NoSuchElementException {
    if (what != 'n' && what != 'o' && what != 'f' && what != 'l' && what != 'v') {
      throw new IllegalArgumentException("a sounding has no such thing");
    }
    if (!log.has(index)) {
      throw new NoSuchElementException("no such sounding");
    }
    return log.tell(index, what);
  }

  public int loudest() throws NoSuchElementException {
    if (log.count == 0) {
      throw new NoSuchElementException("no sounding is kept");
    }
    return log.findLoudest();
  }

  // ---- Speed

  public int speed(int first, int growth) throws IllegalArgumentException {
    demandWithin(first, SLOWEST, FASTEST);
    demandWithin(growth, 0, MOST_GROWTH);
    int before = firstSpeed;
    this.firstSpeed = first;
    this.growth = growth;
    return before;
  }

  public long time(int row) throws IllegalArgumentException {
    demandWithin(row, 0, ROWS);
    long sum = 0;
    for (int k = 0; k < row; k++) {
      sum += measureRow(k);
    }
    return sum;
  }

  // ---- Sums over all

  public long checksum() {
    long sum = 7;
    for (int i = 0; i < paperCount && i < MOST_ROLLS; i++) {
      sum = papers[i].addToSum(sum);
    }
    return log.addToSum(sum);
  }

  public float heardShare() throws ArithmeticException {
    if (player.openings == 0) {
      throw new ArithmeticException("no valve was opened");
    }
    return (float) player.beginnings / (float) player.openings;
  }

  public double meanLoud() throws ArithmeticException {
    if (log.count == 0) {
      throw new ArithmeticException("no sounding is kept");
    }
    return (double) log.addLoudness() / (double) log.count;
  }

  public boolean isSound() {
    return log.isInOrder() && isArrangementKept();
  }

  // ---- What the face leans on

  private static void demandWithin(int number, int least, int most) {
    if (number < least || number > most) {
      throw new IllegalArgumentException("a number is out of range");
    }
  }

  private boolean hasPaper(int number) {
    return number >= 0 && number < paperCount && number < MOST_ROLLS;
  }

  private Paper demandPaper(int number) {
    if (!hasPaper(number)) {
      throw new IndexOutOfBoundsException("no such roll");
    }
    return papers[number];
  }

  private Valve demandValve(int number) {
    if (number < 0 || number >= valves.length) {
      throw new IndexOutOfBoundsException("no such note");
    }
    return valves[number];
  }

  private void demandPlaying() {
    if (!player.isBusy()) {
      throw new IllegalStateException("no roll is played");
    }
  }

  private void demandRoomForRoll() {
    if (paperCount >= MOST_ROLLS) {
      throw new IllegalStateException("there are 4 rolls already");
    }
  }

  private int addRoll() {
    paperCount++;
    return paperCount - 1;
  }

  private void forgetArrangementOf(int number) {
    if (arrangedRoll == number) {
      arrangedRoll = NO_ROLL;
    }
  }

  private boolean isArrangementKept() {
    return !hasPaper(arrangedRoll) || music.isScannedFrom(papers[arrangedRoll]);
  }

  private boolean isLentToAnother(int number) {
    for (int i = 0; i < PITCHES; i++) {
      if (i != number && valves[i].lender == number) {
        return true;
      }
    }
    return false;
  }

  private int measureRow(int number) {
    int pace = firstSpeed + number * growth / GROWTH_DIVISOR;
    return pace > 0 ? ROW_WAY / pace : 0;
  }

  /** The holes of a roll: in each row, the bit of a track is set where it has a hole. */
  private static final class Paper {
    private final int[] bits = new int[ROWS];

    int readBits(int row) {
      return row >= 0 && row < ROWS ? bits[row] : 0;
    }

    boolean hasHole(int row, int track) {
      return (readBits(row) >> track & 1) != 0;
    }

    void putHole(int row, int track, boolean is) {
      if (row < 0 || row >= ROWS) {
        return;
      }
      int bit = 1 << track;
      bits[row] = is ? bits[row] | bit : bits[row] & ~bit;
    }

    int countRows() {
      for (int row = ROWS - 1; row >= 0; row--) {
        if (bits[row] != 0) {
          return row + 1;
        }
      }
      return 0;
    }

    boolean hasHolesFrom(int first) {
      for (int row = first < 0 ? 0 : first; row < ROWS; row++) {
        if (bits[row] != 0) {
          return true;
        }
      }
      return false;
    }

    int countHoles(int tracks) {
      int count = 0;
      for (int row = 0; row < ROWS; row++) {
        count += Integer.bitCount(bits[row] & tracks);
      }
      return count;
    }

    int countUnlike(Paper other) {
      int count = 0;
      for (int row = 0; row < ROWS; row++) {
        count += Integer.bitCount(bits[row] ^ other.bits[row]);
      }
      return count;
    }

    void takeHolesOf(Paper other) {
      for (int row = 0; row < ROWS; row++) {
        bits[row] = other.bits[row];
      }
    }

    void mendPitches() {
      for (int row = 0; row < ROWS; row++) {
        bits[row] &= ~PITCH_BITS;
      }
    }

    /** The tracks at which a scanned note begins: two rows without a hole stand ahead of it. */
    private int findBeginnings(int row) {
      return readBits(row) & ~readBits(row - 1) & ~readBits(row - 2) & PITCH_BITS;
    }

    boolean isBeginning(int row, int pitch) {
      return (findBeginnings(row) >> pitch & 1) != 0;
    }

    int countNotes() {
      int count = 0;
      for (int row = 0; row < ROWS; row++) {
        count += Integer.bitCount(findBeginnings(row));
      }
      return count;
    }

    /** Where a scanned note begins: 16 times its first row plus its pitch, or NO_NOTE. */
    int findNote(int index) {
      if (index < 0) {
        return NO_NOTE;
      }
      int left = index;
      for (int row = 0; row < ROWS; row++) {
        int beginnings = findBeginnings(row);
        int here = Integer.bitCount(beginnings);
        if (left < here) {
          return row * TRACKS + findBit(beginnings, left);
        }
        left -= here;
      }
      return NO_NOTE;
    }

    private static int findBit(int bits, int index) {
      int left = index;
      for (int track = 0; track < PITCHES; track++) {
        if ((bits >> track & 1) != 0) {
          if (left == 0) {
            return track;
          }
          left--;
        }
      }
      return 0;
    }

    int measureNote(int first, int pitch) {
      int last = first;
      for (int row = first + 1; row < ROWS; row++) {
        if (hasHole(row, pitch)) {
          last = row;
        } else if (row - last >= LEAST_APART) {
          break;
        }
      }
      return last - first + 1;
    }

    long addToSum(long start) {
      long sum = start;
      for (int row = 0; row < ROWS; row++) {
        if (bits[row] != 0) {
          sum = addRowToSum(sum, row);
        }
      }
      return sum;
    }

    private long addRowToSum(long start, int row) {
      long sum = start;
      for (int track = 0; track < TRACKS; track++) {
        if (hasHole(row, track)) {
          sum = 31 * sum + 16 * row + track;
        }
      }
      return sum;
    }
  }

  /** The notes that are typed. */
  private static final class Music {
    private final int[] firsts = new int[MOST_NOTES];
    private final int[] lengths = new int[MOST_NOTES];
    private final int[] pitches = new int[MOST_NOTES];
    private int count = 0;

    boolean isFull() {
      return count >= MOST_NOTES;
    }

    boolean isTooNear(int first, int length, int pitch) {
      for (int i = 0; i < count; i++) {
        if (pitches[i] == pitch) {
          boolean isAhead = first + length + LEAST_APART <= firsts[i];
          boolean isBehind = firsts[i] + lengths[i] + LEAST_APART <= first;
          if (!isAhead && !isBehind) {
            return true;
          }
        }
      }
      return false;
    }

    int type(int first, int length, int pitch) {
      if (count < MOST_NOTES) {
        firsts[count] = first;
        lengths[count] = length;
        pitches[count] = pitch;
        count++;
      }
      return count;
    }

    int forgetAll() {
      int before = count;
      count = 0;
      return before;
    }

    void punchInto(Paper paper, boolean hasBridges) {
      for (int i = 0; i < count; i++) {
        punchNote(paper, i, hasBridges);
      }
    }

    private void punchNote(Paper paper, int index, boolean hasBridges) {
      int length = lengths[index];
      for (int k = 0; k < length; k++) {
        boolean isBridge = hasBridges && k % BRIDGE_STEP == BRIDGE_STEP - 1 && k < length - 1;
        if (!isBridge) {
          paper.putHole(firsts[index] + k, pitches[index], true);
        }
      }
    }

    // Typed notes differ in first row or pitch, so as many as scanned ones, all found, are all.
    boolean isScannedFrom(Paper paper) {
      if (paper.countNotes() != count) {
        return false;
      }
      for (int i = 0; i < count; i++) {
        if (!paper.isBeginning(firsts[i], pitches[i])
            || paper.measureNote(firsts[i], pitches[i]) != lengths[i]) {
          return false;
        }
      }
      return true;
    }
  }

  /** What is told for all valves, and the maker. */
  private static final class Settings {
    int gap = 1;
    int least = 0;
    int pump = 100;
    int leak = 0;
    char maker = 'a';

    /** The most that a thing may be, -1 if there is no such thing. */
    int findMost(char what) {
      if (what == 'g') {
        return MOST_GAP;
      }
      if (what == 'l') {
        return MOST_LEAST_SUCTION;
      }
      if (what == 'p') {
        return MOST_PUMP;
      }
      return what == 'k' ? MOST_LEAK : -1;
    }

    int exchange(char what, int number) {
      int before;
      if (what == 'g') {
        before = gap;
        gap = number;
      } else if (what == 'l') {
        before = least;
        least = number;
      } else if (what == 'p') {
        before = pump;
        pump = number;
      } else {
        before = leak;
        leak = number;
      }
      return before;
    }
  }

  /** The valve of a note: what is told of it, and how it stands while a roll is played. */
  private static final class Valve {
    int delay = 0;
    int rest = 0;
    int use = FIRST_USE;
    // The note whose valve the holes of this note open.
    int lender;
    boolean stands = false;
    int opening = 0;
    int rowsWithout = 0;
    int closing = NEVER_CLOSED;
    boolean speaks = false;
    boolean rings = false;
    int kept = NO_SOUNDING;

    Valve(int number) {
      lender = number;
    }

    void reset() {
      stands = false;
      opening = 0;
      rowsWithout = 0;
      closing = NEVER_CLOSED;
      speaks = false;
      rings = false;
      kept = NO_SOUNDING;
    }

    boolean isAudible() {
      return speaks || rings;
    }

    boolean isReady(int row) {
      return stands && !speaks && row >= opening + delay && row >= closing + rest;
    }
  }

  /** The soundings that are kept of the roll that was loaded last. */
  private static final class SoundingLog {
    private final int[] notes = new int[MOST_SOUNDINGS];
    private final int[] openings = new int[MOST_SOUNDINGS];
    private final int[] firsts = new int[MOST_SOUNDINGS];
    private final int[] lasts = new int[MOST_SOUNDINGS];
    private final int[] louds = new int[MOST_SOUNDINGS];
    private final int[] heardTo = new int[PITCHES];
    int count = 0;

    void clear() {
      count = 0;
    }

    boolean has(int index) {
      return index >= 0 && index < count && index < MOST_SOUNDINGS;
    }

    /** The index of the sounding, NO_SOUNDING if there is no room for it. */
    int keep(int number, int opening, int first, int loud) {
      if (count >= MOST_SOUNDINGS) {
        return NO_SOUNDING;
      }
      notes[count] = number;
      openings[count] = opening;
      firsts[count] = first;
      lasts[count] = STILL_HEARD;
      louds[count] = loud;
      count++;
      return count - 1;
    }

    void finish(int index, int last) {
      if (has(index)) {
        lasts[index] = last;
      }
    }

    int tell(int index, char what) {
      if (!has(index)) {
        return 0;
      }
      if (what == 'n') {
        return notes[index];
      }
      if (what == 'o') {
        return openings[index];
      }
      if (what == 'f') {
        return firsts[index];
      }
      return what == 'l' ? lasts[index] : louds[index];
    }

    int findLoudest() {
      int best = 0;
      for (int i = 1; i < count; i++) {
        if (louds[i] > louds[best]) {
          best = i;
        }
      }
      return best;
    }

    int addLoudness() {
      int sum = 0;
      for (int i = 0; i < count; i++) {
        sum += louds[i];
      }
      return sum;
    }

    long addToSum(long start) {
      long sum = start;
      for (int i = 0; i < count; i++) {
        sum = 31 * sum + notes[i];
        sum = 31 * sum + firsts[i];
        sum = 31 * sum + louds[i];
      }
      return sum;
    }

    // They stand in the order of their first rows: each need only be behind the one ahead of it.
    boolean isInOrder() {
      for (int i = 0; i < PITCHES; i++) {
        heardTo[i] = -1;
      }
      for (int i = 0; i < count; i++) {
        int number = notes[i];
        if (number < 0 || number >= PITCHES || !isWellTimed(i) || firsts[i] <= heardTo[number]) {
          return false;
        }
        heardTo[number] = lasts[i] == STILL_HEARD ? ROWS : lasts[i];
      }
      return true;
    }

    private boolean isWellTimed(int index) {
      return firsts[index] >= openings[index]
          && (lasts[index] == STILL_HEARD || lasts[index] >= firsts[index]);
    }
  }

  /** Plays a roll, row by row; without a paper none is played. */
  private static final class Player {
    final Settings settings = new Settings();
    final Valve[] valves = new Valve[PITCHES];
    final SoundingLog log = new SoundingLog();
    private Paper paper = null;
    int nextRow = 0;
    int vacuum = MOST_SUCTION;
    int strength = MIDDLE_LEVEL;
    int shift = 0;
    int openings = 0;
    int beginnings = 0;
    private boolean isLatched = false;
    private boolean isPedalDown = false;
    private int readAhead = 0;

    Player() {
      for (int i = 0; i < PITCHES; i++) {
        valves[i] = new Valve(i);
      }
    }

    boolean isBusy() {
      return paper != null;
    }

    void begin(Paper loaded) {
      paper = loaded.hasHolesFrom(0) ? loaded : null;
      nextRow = 0;
      vacuum = MOST_SUCTION;
      strength = MIDDLE_LEVEL;
      shift = 0;
      openings = 0;
      beginnings = 0;
      isLatched = false;
      isPedalDown = false;
      readAhead = 0;
      log.clear();
      for (int i = 0; i < PITCHES; i++) {
        valves[i].reset();
      }
    }

    /** Plays as many rows, fewer if the roll ends; how many it played. */
    int playRows(int rows) {
      Paper loaded = paper;
      if (loaded == null) {
        return 0;
      }
      int played = 0;
      // Looked at ahead of each row: the roll may have been mended shorter than its next row.
      while (played < rows && loaded.hasHolesFrom(nextRow)) {
        playRow(loaded);
        played++;
      }
      if (!loaded.hasHolesFrom(nextRow)) {
        endPlaying();
      }
      return played;
    }

    private void playRow(Paper played) {
      int read = readHoles(played);
      makeLevel(read);
      isPedalDown = isRead(read, PEDAL_TRACK);
      moveValves(findFed(read));
      moveSuction();
      readAhead = read;
      nextRow++;
    }

    private int readHoles(Paper played) {
      int bits = played.readBits(nextRow);
      return shift >= 0 ? bits >> shift : bits << -shift & TRACK_BITS;
    }

    private static boolean isRead(int read, int track) {
      return (read >> track & 1) != 0;
    }

    private void makeLevel(int read) {
      boolean isMore = isRead(read, MORE_TRACK);
      boolean isLess = isRead(read, LESS_TRACK);
      if (settings.maker == 'a') {
        moveLevel(latch(isMore, isLess) ? 1 : -1);
      } else if (settings.maker == 'b') {
        boolean beginsMore = isMore && !isRead(readAhead, MORE_TRACK);
        boolean beginsLess = isLess && !isRead(readAhead, LESS_TRACK);
        moveLevel((beginsMore ? 1 : 0) - (beginsLess ? 1 : 0));
      } else if (isMore || isLess) {
        moveLevel((isMore ? 2 : 0) - (isLess ? 2 : 0));
      } else {
        moveLevel(Integer.compare(MIDDLE_LEVEL, strength));
      }
    }

    private boolean latch(boolean isMore, boolean isLess) {
      if (isLess) {
        isLatched = false;
      } else if (isMore) {
        isLatched = true;
      }
      return isLatched;
    }

    private void moveLevel(int steps) {
      strength = Math.max(0, Math.min(MOST_LEVEL, strength + steps));
    }

    /** The valves that a hole opens, by bits: those of the lenders of the notes that are read. */
    private int findFed(int read) {
      int fed = 0;
      for (int i = 0; i < PITCHES; i++) {
        if (isRead(read, i)) {
          fed |= 1 << valves[i].lender;
        }
      }
      return fed;
    }

    private void moveValves(int fed) {
      for (int i = 0; i < PITCHES; i++) {
        Valve valve = valves[i];
        moveValve(valve, isRead(fed, i));
        boolean isAnew = valve.isReady(nextRow) && vacuum >= settings.least;
        if (valve.rings && (isAnew || !isPedalDown)) {
          endHearing(valve);
        }
        if (isAnew) {
          beginSounding(i, valve);
        }
      }
    }

    private void moveValve(Valve valve, boolean isFed) {
      if (isFed) {
        valve.rowsWithout = 0;
        if (!valve.stands) {
          openValve(valve);
        }
      } else if (valve.stands) {
        valve.rowsWithout++;
        if (valve.rowsWithout > settings.gap) {
          closeValve(valve);
        }
      }
    }

    private void openValve(Valve valve) {
      valve.stands = true;
      valve.opening = nextRow;
      openings++;
    }

    private void closeValve(Valve valve) {
      valve.stands = false;
      valve.closing = nextRow;
      if (valve.speaks) {
        valve.speaks = false;
        // With the pedal up the ring ends in this very row.
        valve.rings = true;
      }
    }

    private void beginSounding(int number, Valve valve) {
      int loud = vacuum * (strength + 1) / LOUDNESS_DIVISOR;
      valve.speaks = true;
      valve.kept = log.keep(number, valve.opening, nextRow, loud);
      beginnings++;
    }

    private void endHearing(Valve valve) {
      log.finish(valve.kept, nextRow - 1);
      valve.kept = NO_SOUNDING;
      valve.speaks = false;
      valve.rings = false;
    }

    private void moveSuction() {
      int drawn = settings.leak;
      for (int i = 0; i < PITCHES; i++) {
        if (valves[i].stands) {
          drawn += valves[i].use;
        }
      }
      vacuum = Math.max(0, Math.min(MOST_SUCTION, vacuum + settings.pump) - drawn);
    }

    private void endPlaying() {
      for (int i = 0; i < PITCHES; i++) {
        endHearing(valves[i]);
        valves[i].stands = false;
      }
      paper = null;
    }
  }
}
