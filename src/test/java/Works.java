import java.util.Arrays;
import java.util.function.ToIntFunction;

/** Works to begin a test with, and what may be asked of any work. None is used for 512 calls. */
final class Works {
  static final int LEAST = Integer.MIN_VALUE;
  static final int GREATEST = Integer.MAX_VALUE;
  static final int[] NO_TRAINS = {-1, 2, 3, LEAST, GREATEST};
  static final int[] NO_MINUTES = {-1, 1440, LEAST, GREATEST};

  private Works() {}

  /** The greatest position of a train, and its greatest due number. */
  static int last(int train) {
    return train == 0 ? 12 : 4;
  }

  /** A work with three saved states and something in every field but the missed releases. */
  static StrikingWork used() {
    StrikingWork w = new StrikingWork();
    w.setSilence(2, 30, 50);
    w.run(130);
    w.trip(1);
    return w;
  }

  /** Both weights run down; racks leave nothing, since 1 blow is due again and again. */
  static StrikingWork spent() {
    StrikingWork w = new StrikingWork();
    w.setMechanism(0, 2);
    w.setMechanism(1, 2);
    for (int i = 0; i < 16; i++) {
      w.run(1440);
    }
    return w;
  }

  /** Count wheels at position 1 and minute 0, as in a new work, but with these weights. */
  static StrikingWork withUnits(int hours, int quarters) {
    StrikingWork w = spent();
    w.setMechanism(0, 1);
    w.setMechanism(1, 1);
    windTo(w, 0, hours);
    windTo(w, 1, quarters);
    return w;
  }

  /** Looks at the weight, which a broken class may have run down too far or not far enough. */
  private static void windTo(StrikingWork w, int train, int units) {
    int more = units - w.weight(train);
    if (more > 0) {
      w.wind(train, more);
    }
  }

  /** A new work in which only this train has a mechanism. */
  static StrikingWork alone(int train, int mechanism) {
    StrikingWork w = new StrikingWork();
    w.setMechanism(train, mechanism);
    w.setMechanism(1 - train, 0);
    return w;
  }

  /** The hands go to a minute from the one before it, so that its releases take place. */
  static int reach(StrikingWork w, int minute) {
    w.setHands((minute + 1439) % 1440);
    return w.run(1);
  }

  /** All that can be asked without an error, but for the error counters and the digest. */
  static int[] values(StrikingWork w) {
    int[] v = new int[46];
    int n = 0;
    v[n++] = w.minute();
    for (int t = 0; t < 2; t++) {
      v[n++] = w.position(t);
      v[n++] = w.weight(t);
      v[n++] = w.sounded(t);
      v[n++] = w.missed(t);
      v[n++] = w.nextDue(t);
      v[n++] = w.lag(t);
    }
    for (int i = 0; i < 7; i++) {
      v[n++] = w.strikeMinute(i);
      v[n++] = w.strikeTrain(i);
      v[n++] = w.strikeBlows(i);
    }
    for (int m = 0; m < 1440; m += 120) {
      v[n++] = w.isSilent(m);
    }
    return v;
  }

  static int[] errors(StrikingWork w) {
    return new int[] {w.errorCount(-2), w.errorCount(-3), w.errorCount(-4)};
  }

  static int entries(StrikingWork w) {
    int n = 0;
    while (n < 7 && w.strikeMinute(n) != -1) {
      n++;
    }
    return n;
  }

  /** What one more error of a code adds to the digest: 31 for each value that comes after. */
  private static long weightOfError(int code, int entries) {
    long power = 1;
    for (int i = 0; i < 23 + 3 * entries + code + 1; i++) {
      power *= 31;
    }
    return power;
  }

  /** The call answers the code, counts it once, and changes nothing else. */
  static void refused(Due due, String name, StrikingWork w, int code,
      ToIntFunction<StrikingWork> call) {
    int[] before = values(w);
    int[] errors = errors(w);
    long digest = w.digest() + weightOfError(code, entries(w));
    due.is(name, call.applyAsInt(w), code);
    errors[-2 - code]++;
    for (int c = -2; c >= -4; c--) {
      due.is(name + ", then errorCount(" + c + ")", w.errorCount(c), errors[-2 - c]);
    }
    due.holds(name + " leaves all values as they were", Arrays.equals(before, values(w)));
    due.is(name + ", then digest()", w.digest(), digest);
  }

  static void outOfRange(Due due, String name, ToIntFunction<StrikingWork> call) {
    StrikingWork w = new StrikingWork();
    refused(due, name + " on a new work", w, -2, call);
    due.is(name + " saved nothing: undo()", w.undo(), -4);
    w = used();
    refused(due, name + " on a used work", w, -2, call);
    due.is(name + " saved nothing on a used work: undo()", w.undo(), 2);
  }

  /** The arguments are in range: the answer is no error, and none is counted. */
  static void taken(Due due, String name, StrikingWork w, ToIntFunction<StrikingWork> call) {
    int[] errors = errors(w);
    int answer = call.applyAsInt(w);
    due.holds(name + " is taken, answer " + answer, answer >= -1);
    due.holds(name + " is counted as no error", Arrays.equals(errors, errors(w)));
  }

  /** On a work with so many saved states, less than 5: the call saves the state before it. */
  static void saves(Due due, String name, StrikingWork w, int states,
      ToIntFunction<StrikingWork> call) {
    int[] before = values(w);
    long digest = w.digest();
    call.applyAsInt(w);
    due.is("undo() of " + name, w.undo(), states);
    due.holds("the values after undo() of " + name, Arrays.equals(before, values(w)));
    due.is("digest() after undo() of " + name, w.digest(), digest);
  }

  static void strike(Due due, String name, StrikingWork w, int index, int... entry) {
    due.is(name + ": strikeMinute(" + index + ")", w.strikeMinute(index), entry[0]);
    due.is(name + ": strikeTrain(" + index + ")", w.strikeTrain(index), entry[1]);
    due.is(name + ": strikeBlows(" + index + ")", w.strikeBlows(index), entry[2]);
  }

  /** Holds isSilent of each minute against a walk from the beginning to the end. */
  static void silentMinutes(Due due, int mode, int begin, int end) {
    boolean[] silent = new boolean[1440];
    for (int m = begin; m != end; m = (m + 1) % 1440) {
      silent[m] = mode != 0;
    }
    StrikingWork w = null;
    for (int m = 0; m < 1440; m++) {
      if (m % 360 == 0) {
        w = new StrikingWork();
        w.setSilence(mode, begin, end);
      }
      due.is("isSilent(" + m + ") of " + mode + ", " + begin + ", " + end,
          w.isSilent(m), silent[m] ? 1 : 0);
    }
  }
}
