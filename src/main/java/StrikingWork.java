/**
 * The striking work of a mechanical clock: an hour train and a quarter train, each with a count
 * wheel or a rack, with a silence, weights, hands that can be set, and undo.
 */
public final class StrikingWork {
  public static final int OUT_OF_RANGE = -2;
  public static final int NOT_POSSIBLE = -3;
  public static final int NOTHING_SAVED = -4;
  public static final int NONE = -1;

  private static final int HOUR_TRAIN = 0;
  private static final int QUARTER_TRAIN = 1;

  private static final int NO_MECHANISM = 0;
  private static final int COUNT_WHEEL = 1;
  private static final int RACK = 2;

  private static final int SILENCE_OFF = 0;
  private static final int TRAINS_BLOCKED = 1;
  private static final int HAMMERS_LIFTED = 2;

  private static final int DAY = 1440;
  private static final int HOUR = 60;
  private static final int QUARTER = 15;
  private static final int HOURS_ON_DIAL = 12;
  private static final int QUARTERS_IN_HOUR = 4;

  private static final int FULL_WEIGHT = 2000;
  private static final int FORESIGHT = 20000;
  private static final int RECORD_SIZE = 6;
  private static final int SAVED_SIZE = 5;
  private static final int ERROR_CODES = 3;
  private static final long DIGEST_START = 2657L;

  // Every row is made once, here, and used again: no call makes an object.
  private final State now = new State();
  private final State[] saved = new State[SAVED_SIZE];
  private final Train trial = new Train(HOUR_TRAIN);
  private final int[] errors = new int[ERROR_CODES];
  private int savedCount = 0;

  public StrikingWork() {
    for (int i = 0; i < SAVED_SIZE; i++) {
      saved[i] = new State();
    }
  }

  // ---- configuration

  public int setMechanism(int train, int mechanism) {
    if (!isTrain(train) || mechanism < NO_MECHANISM || mechanism > RACK) {
      return refuse(OUT_OF_RANGE);
    }
    save();
    Train chosen = now.trainOf(train);
    int previous = chosen.mechanism;
    chosen.mechanism = mechanism;
    return previous;
  }

  public int setPosition(int train, int position) {
    if (!isTrain(train) || position < 1 || position > now.trainOf(train).lastPosition()) {
      return refuse(OUT_OF_RANGE);
    }
    save();
    Train chosen = now.trainOf(train);
    int previous = chosen.position;
    chosen.position = position;
    return previous;
  }

  public int setSilence(int mode, int begin, int end) {
    boolean modeExists = mode >= SILENCE_OFF && mode <= HAMMERS_LIFTED;
    if (!modeExists || !isMinute(begin) || !isMinute(end)) {
      return refuse(OUT_OF_RANGE);
    }
    save();
    int previous = now.silenceMode;
    now.silenceMode = mode;
    now.silenceBegin = begin;
    now.silenceEnd = end;
    return previous;
  }

  public int wind(int train, int units) {
    if (!isTrain(train) || units < 1 || units > FULL_WEIGHT) {
      return refuse(OUT_OF_RANGE);
    }
    save();
    Train chosen = now.trainOf(train);
    int gained = Math.min(units, FULL_WEIGHT - chosen.weight);
    chosen.weight += gained;
    return gained;
  }

  // ---- running

  public int run(int minutes) {
    if (minutes < 0 || minutes > DAY) {
      return refuse(OUT_OF_RANGE);
    }
    save();
    int start = now.minute;
    int heard = 0;
    // Between two quarters nothing is released, so the hands may go from quarter to quarter.
    for (int after = QUARTER - start % QUARTER; after <= minutes; after += QUARTER) {
      now.minute = (start + after) % DAY;
      heard += strikeQuarter();
    }
    now.minute = (start + minutes) % DAY;
    return heard;
  }

  public int setHands(int minute) {
    if (!isMinute(minute)) {
      return refuse(OUT_OF_RANGE);
    }
    save();
    int previous = now.minute;
    now.minute = minute;
    return previous;
  }

  public int trip(int train) {
    if (!isTrain(train)) {
      return refuse(OUT_OF_RANGE);
    }
    Train chosen = now.trainOf(train);
    int due = chosen.dueAfter(now.minute);
    // Asked before the release, which would count a miss.
    if (!chosen.canStrike(due)) {
      return refuse(NOT_POSSIBLE);
    }
    save();
    return release(chosen, due, false);
  }

  // ---- steps

  public int nextDue(int train) {
    return isTrain(train) ? now.trainOf(train).dueAfter(now.minute) : refuse(OUT_OF_RANGE);
  }

  public int lag(int train) {
    return isTrain(train) ? now.trainOf(train).lagAt(now.minute) : refuse(OUT_OF_RANGE);
  }

  public int blowsToCorrect(int train) {
    if (!isTrain(train)) {
      return refuse(OUT_OF_RANGE);
    }
    Train chosen = now.trainOf(train);
    int trips = chosen.lagAt(now.minute);
    int position = chosen.position;
    int blows = 0;
    for (int i = 0; i < trips; i++) {
      blows += position;
      position = chosen.positionAfter(position);
    }
    return blows;
  }

  public int handsToCorrect(int train) {
    if (!isTrain(train)) {
      return refuse(OUT_OF_RANGE);
    }
    Train chosen = now.trainOf(train);
    int lag = chosen.lagAt(now.minute);
    if (lag == 0) {
      return now.minute;
    }
    // The next due number grows by 1 at each release that the hands pass. The lag is what the
    // wheel wants to reach the hands; the rest of the turn is what the hands want to reach it.
    int releases = chosen.lastPosition() - lag;
    return (chosen.lastReleaseUpTo(now.minute) + releases * chosen.period()) % DAY;
  }

  public int minutesToMiss(int train) {
    if (!isTrain(train)) {
      return refuse(OUT_OF_RANGE);
    }
    trial.copyFrom(now.trainOf(train));
    int missedBefore = trial.missed;
    for (int after = QUARTER - now.minute % QUARTER; after <= FORESIGHT; after += QUARTER) {
      int minute = (now.minute + after) % DAY;
      if (trial.isReleasedAt(minute) && !now.blocksAt(minute)) {
        trial.releaseWith(trial.dueAt(minute));
      }
      if (trial.missed != missedBefore) {
        return after;
      }
    }
    return NONE;
  }

  // ---- values

  public int minute() {
    return now.minute;
  }

  public int position(int train) {
    return isTrain(train) ? now.trainOf(train).position : refuse(OUT_OF_RANGE);
  }

  public int weight(int train) {
    return isTrain(train) ? now.trainOf(train).weight : refuse(OUT_OF_RANGE);
  }

  public int sounded(int train) {
    return isTrain(train) ? now.trainOf(train).sounded : refuse(OUT_OF_RANGE);
  }

  public int missed(int train) {
    return isTrain(train) ? now.trainOf(train).missed : refuse(OUT_OF_RANGE);
  }

  public int isSilent(int minute) {
    if (!isMinute(minute)) {
      return refuse(OUT_OF_RANGE);
    }
    return now.hushesAt(minute) ? 1 : 0;
  }

  public int strikeMinute(int index) {
    if (index < 0) {
      return refuse(OUT_OF_RANGE);
    }
    return index < now.strikes.count ? now.strikes.minutes[index] : NONE;
  }

  public int strikeTrain(int index) {
    if (index < 0) {
      return refuse(OUT_OF_RANGE);
    }
    return index < now.strikes.count ? now.strikes.trains[index] : NONE;
  }

  public int strikeBlows(int index) {
    if (index < 0) {
      return refuse(OUT_OF_RANGE);
    }
    return index < now.strikes.count ? now.strikes.blows[index] : 0;
  }

  // ---- state

  public int undo() {
    if (savedCount <= 0) {
      return refuse(NOTHING_SAVED);
    }
    savedCount--;
    now.copyFrom(saved[savedCount]);
    return savedCount;
  }

  public int errorCount(int code) {
    if (code < NOTHING_SAVED || code > OUT_OF_RANGE) {
      return refuse(OUT_OF_RANGE);
    }
    return errors[errorIndex(code)];
  }

  public long digest() {
    long h = DIGEST_START;
    for (int i = 0; i < ERROR_CODES; i++) {
      h = 31L * h + errors[i];
    }
    h = now.addToHash(h);
    return 31L * h + savedCount;
  }

  // ---- the work inside

  private static boolean isTrain(int train) {
    return train == HOUR_TRAIN || train == QUARTER_TRAIN;
  }

  private static boolean isMinute(int minute) {
    return minute >= 0 && minute < DAY;
  }

  private static int errorIndex(int code) {
    return OUT_OF_RANGE - code;
  }

  private int refuse(int code) {
    errors[errorIndex(code)]++;
    return code;
  }

  private void save() {
    if (savedCount >= SAVED_SIZE) {
      dropOldestSaved();
    }
    saved[savedCount].copyFrom(now);
    savedCount++;
  }

  private void dropOldestSaved() {
    State oldest = saved[0];
    for (int i = 1; i < SAVED_SIZE; i++) {
      saved[i - 1] = saved[i];
    }
    // Its room serves the next state.
    saved[SAVED_SIZE - 1] = oldest;
    savedCount = SAVED_SIZE - 1;
  }

  /** What the clock does when the hands reach a quarter; answers the blows that sounded. */
  private int strikeQuarter() {
    if (now.blocksAt(now.minute)) {
      return 0;
    }
    // A silence that does not block the trains lifts the hammers.
    boolean lifted = now.hushesAt(now.minute);
    int heard = release(now.quarters, now.quarters.dueAt(now.minute), lifted);
    if (now.hours.isReleasedAt(now.minute)) {
      heard += release(now.hours, now.hours.dueAt(now.minute), lifted);
    }
    return heard;
  }

  /** Releases a train of the work; answers the blows that sounded. */
  private int release(Train train, int due, boolean lifted) {
    int blows = train.releaseWith(due);
    if (blows == 0) {
      return 0;
    }
    now.strikes.put(now.minute, train.number, lifted ? -blows : blows);
    if (lifted) {
      return 0;
    }
    train.sounded += blows;
    return blows;
  }

  /** All that undo brings back. */
  private static final class State {
    final Train hours = new Train(HOUR_TRAIN);
    final Train quarters = new Train(QUARTER_TRAIN);
    final Strikes strikes = new Strikes();
    int minute = 0;
    int silenceMode = SILENCE_OFF;
    int silenceBegin = 0;
    int silenceEnd = 0;

    Train trainOf(int number) {
      return number == HOUR_TRAIN ? hours : quarters;
    }

    boolean hushesAt(int at) {
      if (silenceMode == SILENCE_OFF) {
        return false;
      }
      if (silenceBegin < silenceEnd) {
        return at >= silenceBegin && at < silenceEnd;
      }
      // An end before the beginning is an end on the next day.
      return silenceBegin > silenceEnd && (at >= silenceBegin || at < silenceEnd);
    }

    boolean blocksAt(int at) {
      return silenceMode == TRAINS_BLOCKED && hushesAt(at);
    }

    void copyFrom(State other) {
      hours.copyFrom(other.hours);
      quarters.copyFrom(other.quarters);
      strikes.copyFrom(other.strikes);
      minute = other.minute;
      silenceMode = other.silenceMode;
      silenceBegin = other.silenceBegin;
      silenceEnd = other.silenceEnd;
    }

    long addToHash(long hash) {
      long h = 31L * hash + minute;
      h = hours.addToHash(h, minute);
      h = quarters.addToHash(h, minute);
      h = 31L * h + silenceMode;
      h = 31L * h + silenceBegin;
      h = 31L * h + silenceEnd;
      return strikes.addToHash(h);
    }
  }

  /** One train with its weight. */
  private static final class Train {
    int number;
    int mechanism = COUNT_WHEEL;
    int position = 1;
    int weight = FULL_WEIGHT;
    int sounded = 0;
    int missed = 0;

    Train(int number) {
      this.number = number;
    }

    int lastPosition() {
      return number == HOUR_TRAIN ? HOURS_ON_DIAL : QUARTERS_IN_HOUR;
    }

    int period() {
      return number == HOUR_TRAIN ? HOUR : QUARTER;
    }

    int lastReleaseUpTo(int minute) {
      return number == HOUR_TRAIN ? minute - minute % HOUR : minute - minute % QUARTER;
    }

    boolean isReleasedAt(int minute) {
      return lastReleaseUpTo(minute) == minute;
    }

    /** The due number of the last release up to a minute. */
    int dueAt(int minute) {
      int due = number == HOUR_TRAIN
          ? minute / HOUR % HOURS_ON_DIAL
          : minute / QUARTER % QUARTERS_IN_HOUR;
      return due == 0 ? lastPosition() : due;
    }

    int dueAfter(int minute) {
      // It may lie on the next day: a day holds whole turns, so the number is the same.
      return dueAt(minute + period());
    }

    int positionAfter(int from) {
      return from == lastPosition() ? 1 : from + 1;
    }

    int lagAt(int minute) {
      if (mechanism != COUNT_WHEEL) {
        return 0;
      }
      int steps = dueAfter(minute) - position;
      return steps < 0 ? steps + lastPosition() : steps;
    }

    int blowsFor(int due) {
      return mechanism == COUNT_WHEEL ? position : due;
    }

    boolean canStrike(int due) {
      return mechanism != NO_MECHANISM && weight >= blowsFor(due);
    }

    /** Lets the train run if it can; answers its blows, 0 if it did not run. */
    int releaseWith(int due) {
      if (mechanism == NO_MECHANISM) {
        return 0;
      }
      if (!canStrike(due)) {
        missed++;
        return 0;
      }
      int blows = blowsFor(due);
      weight -= blows;
      if (mechanism == COUNT_WHEEL) {
        position = positionAfter(position);
      }
      return blows;
    }

    void copyFrom(Train other) {
      number = other.number;
      mechanism = other.mechanism;
      position = other.position;
      weight = other.weight;
      sounded = other.sounded;
      missed = other.missed;
    }

    long addToHash(long hash, int minute) {
      long h = 31L * hash + mechanism;
      h = 31L * h + position;
      h = 31L * h + weight;
      h = 31L * h + sounded;
      h = 31L * h + missed;
      h = 31L * h + dueAfter(minute);
      return 31L * h + lagAt(minute);
    }
  }

  /** The record of the last strikes, the latest at index 0. */
  private static final class Strikes {
    final int[] minutes = new int[RECORD_SIZE];
    final int[] trains = new int[RECORD_SIZE];
    // Negative where the hammers were lifted.
    final int[] blows = new int[RECORD_SIZE];
    int count = 0;

    void put(int minute, int train, int signedBlows) {
      for (int i = RECORD_SIZE - 1; i > 0; i--) {
        minutes[i] = minutes[i - 1];
        trains[i] = trains[i - 1];
        blows[i] = blows[i - 1];
      }
      minutes[0] = minute;
      trains[0] = train;
      blows[0] = signedBlows;
      count = Math.min(count + 1, RECORD_SIZE);
    }

    void copyFrom(Strikes other) {
      for (int i = 0; i < RECORD_SIZE; i++) {
        minutes[i] = other.minutes[i];
        trains[i] = other.trains[i];
        blows[i] = other.blows[i];
      }
      count = other.count;
    }

    long addToHash(long hash) {
      long h = 31L * hash + count;
      for (int i = 0; i < count; i++) {
        h = 31L * h + minutes[i];
        h = 31L * h + trains[i];
        h = 31L * h + blows[i];
      }
      return h;
    }
  }
}
