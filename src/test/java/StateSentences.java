import java.util.Arrays;
import java.util.List;
import java.util.function.ToIntFunction;

/** The sentences on undo, errors, the constants and the digest, and of promises 23 to 25. */
final class StateSentences {
  private static final String DESCRIPTION = "Description";

  private StateSentences() {}

  static void addTo(List<Sentence> all) {
    addUndo(all);
    addErrors(all);
    addConstants(all);
    addErrorCount(all);
    addDigest(all);
  }

  // ---- undo

  private static void addUndo(List<Sentence> all) {
    Sentence saves = Sentence.in(DESCRIPTION, "2 to 8 and 23", "Each successful call of a method "
        + "whose description says \"undoable\" saves the state from before the call, even if the "
        + "call changes nothing", StateSentences::eachCallSaves);
    for (String method : new String[] {
        "setMechanism", "setPosition", "setSilence", "wind", "run", "setHands", "trip"}) {
      saves.brokenBy("public int " + method + "(", "save();", "");
    }
    all.add(saves
        .brokenBy("public int setMechanism(", "save();",
            "if (now.trainOf(train).mechanism != mechanism) save();")
        .brokenBy("public int setPosition(", "save();",
            "if (now.trainOf(train).position != position) save();")
        .brokenBy("public int setSilence(", "save();", "if (mode != now.silenceMode) save();")
        .brokenBy("public int wind(", "save();",
            "if (now.trainOf(train).weight < FULL_WEIGHT) save();")
        .brokenBy("public int run(", "save();", "if (minutes > 0) save();")
        .brokenBy("public int setHands(", "save();", "if (minute != now.minute) save();"));
    all.add(Sentence.in(DESCRIPTION, "23", "at most 5 states are saved, and the oldest is dropped "
        + "first", StateSentences::atMostFive)
        .brokenBy("StrikingWork {", "SAVED_SIZE = 5", "SAVED_SIZE = 4")
        .brokenBy("StrikingWork {", "SAVED_SIZE = 5", "SAVED_SIZE = 6")
        .brokenBy("private void save()", "dropOldestSaved();", "savedCount--;")
        .brokenBy("private void save()", "dropOldestSaved();", "return;")
        .brokenBy("private void save()", "dropOldestSaved();", "savedCount = 0;")
        .brokenBy("private void dropOldestSaved()", "saved[SAVED_SIZE - 1] = oldest;", ""));
    Sentence everything = Sentence.in(DESCRIPTION, "23",
        "The saved state contains everything except the error counters.",
        StateSentences::everythingSaved);
    for (String row : new String[] {
        "hours.copyFrom(other.hours);", "quarters.copyFrom(other.quarters);",
        "strikes.copyFrom(other.strikes);", "minute = other.minute;",
        "silenceMode = other.silenceMode;", "silenceBegin = other.silenceBegin;",
        "silenceEnd = other.silenceEnd;"}) {
      everything.brokenBy("void copyFrom(State other)", row, "");
    }
    for (String row : new String[] {
        "mechanism = other.mechanism;", "position = other.position;", "weight = other.weight;",
        "sounded = other.sounded;", "missed = other.missed;"}) {
      everything.brokenBy("void copyFrom(Train other)", row, "");
    }
    for (String row : new String[] {
        "minutes[i] = other.minutes[i];", "trains[i] = other.trains[i];",
        "blows[i] = other.blows[i];", "count = other.count;"}) {
      everything.brokenBy("void copyFrom(Strikes other)", row, "");
    }
    all.add(everything.brokenBy("public int undo()", "savedCount--;",
        "savedCount--; errors[0] = 0;"));
    addUndoItself(all);
  }

  private static void addUndoItself(List<Sentence> all) {
    all.add(Sentence.of(23, "Restores the most recently saved state and removes it from the saved "
        + "states.", due -> {
          StrikingWork w = new StrikingWork();
          w.setHands(100);
          w.setHands(200);
          w.undo();
          due.is("minute() after one undo()", w.minute(), 100);
          w.undo();
          due.is("minute() after two", w.minute(), 0);
          w.setHands(300);
          w.undo();
          due.is("minute() after another call and undo()", w.minute(), 0);
          due.is("no state is left", w.undo(), -4);
        })
        .brokenBy("public int undo()", "now.copyFrom(saved[savedCount])", "now.copyFrom(saved[0])")
        .brokenBy("public int undo()", "savedCount--;\n    now.copyFrom(saved[savedCount])",
            "now.copyFrom(saved[savedCount - 1])"));
    all.add(Sentence.of(23, "Returns the number of saved states that remain; NOTHING_SAVED if "
        + "there is none.", StateSentences::statesThatRemain)
        .brokenBy("public int undo()", "return savedCount;", "return savedCount + 1;")
        .brokenBy("public int undo()", "savedCount <= 0", "savedCount <= 1")
        .brokenBy("public int undo()", "refuse(NOTHING_SAVED)", "NOTHING_SAVED")
        .brokenBy("public int undo()", "refuse(NOTHING_SAVED)", "refuse(NOT_POSSIBLE)")
        .brokenBy("public int undo()", "refuse(NOTHING_SAVED)", "0"));
  }

  private static void eachCallSaves(Due due) {
    Works.saves(due, "setMechanism", Works.used(), 3, w -> w.setMechanism(1, 2));
    Works.saves(due, "setMechanism to the same", Works.used(), 3, w -> w.setMechanism(1, 1));
    Works.saves(due, "setPosition", Works.used(), 3, w -> w.setPosition(0, 12));
    Works.saves(due, "setPosition to the same", Works.used(), 3, w -> w.setPosition(0, 3));
    Works.saves(due, "setSilence", Works.used(), 3, w -> w.setSilence(1, 3, 4));
    Works.saves(due, "setSilence to the same", Works.used(), 3, w -> w.setSilence(2, 30, 50));
    Works.saves(due, "wind", Works.used(), 3, w -> w.wind(0, 2000));
    Works.saves(due, "run", Works.used(), 3, w -> w.run(1440));
    Works.saves(due, "run(0)", Works.used(), 3, w -> w.run(0));
    Works.saves(due, "setHands", Works.used(), 3, w -> w.setHands(5));
    Works.saves(due, "setHands to the same", Works.used(), 3, w -> w.setHands(130));
    Works.saves(due, "trip", Works.used(), 3, w -> w.trip(0));
    StrikingWork full = new StrikingWork();
    full.wind(0, 1);
    full.wind(1, 2000);
    due.is("undo() of a wind without gain", full.undo(), 1);
    due.is("undo() of the other", full.undo(), 0);
  }

  /** Each call sets the hands to its number; so many are undone until none is left. */
  private static void undoAll(Due due, StrikingWork w, int calls, int states) {
    for (int left = states - 1; left >= 0; left--) {
      due.is("undo() after " + calls + " calls", w.undo(), left);
      due.is("minute() with " + left + " states left", w.minute(), calls - states + left);
    }
    due.is("undo() of nothing after " + calls + " calls", w.undo(), -4);
  }

  private static void atMostFive(Due due) {
    for (int calls = 0; calls <= 12; calls++) {
      StrikingWork w = new StrikingWork();
      for (int i = 1; i <= calls; i++) {
        w.setHands(i);
      }
      undoAll(due, w, calls, Math.min(calls, 5));
    }
    StrikingWork again = new StrikingWork();
    for (int i = 1; i <= 7; i++) {
      again.setHands(i);
    }
    again.undo();
    again.undo();
    for (int i = 6; i <= 9; i++) {
      again.setHands(i);
    }
    undoAll(due, again, 9, 5);
  }

  private static void everythingSaved(Due due) {
    StrikingWork w = Works.withUnits(0, 0);
    w.wind(0, 100);
    int[] before = Works.values(w);
    long digest = w.digest();
    // Five calls that change all there is, and then back over all five.
    w.setSilence(2, 1, 1439);
    w.setMechanism(0, 2);
    w.setMechanism(1, 0);
    w.setPosition(1, 3);
    w.run(727);
    for (int i = 0; i < 5; i++) {
      w.undo();
    }
    due.holds("all values are back", Arrays.equals(before, Works.values(w)));
    // But for the five saved states, which are used up.
    due.is("digest() is back", w.digest(), digest - 5);
    due.is("the mechanism of train 0 is back", w.setMechanism(0, 1), 1);
    due.is("the mechanism of train 1 is back", w.setMechanism(1, 1), 1);
    due.is("the mode of the silence is back", w.setSilence(0, 0, 0), 0);
    StrikingWork light = Works.withUnits(0, 0);
    int[] missed = {light.missed(0), light.missed(1)};
    light.run(60);
    light.undo();
    due.is("missed(0) is back", light.missed(0), missed[0]);
    due.is("missed(1) is back", light.missed(1), missed[1]);
    recordIsBack(due);
    countersStay(due);
  }

  private static void recordIsBack(Due due) {
    StrikingWork w = new StrikingWork();
    w.setSilence(2, 70, 80);
    w.run(90);
    w.setSilence(2, 0, 1439);
    int[] before = Works.values(w);
    w.run(720);
    w.setHands(1000);
    w.trip(0);
    w.undo();
    w.undo();
    w.undo();
    due.holds("a full record is back", Arrays.equals(before, Works.values(w)));
    StrikingWork empty = new StrikingWork();
    empty.run(1440);
    empty.undo();
    Works.strike(due, "an empty record is back", empty, 0, -1, -1, 0);
    due.is("the blows are back", empty.sounded(0) + empty.sounded(1), 0);
    due.is("the weights are back", empty.weight(0) + empty.weight(1), 4000);
  }

  private static void countersStay(Due due) {
    StrikingWork w = new StrikingWork();
    w.undo();
    w.setHands(-1);
    w.setMechanism(0, 0);
    w.trip(0);
    w.setHands(1440);
    w.undo();
    due.is("errorCount(-2) after undo()", w.errorCount(-2), 2);
    due.is("errorCount(-3) after undo()", w.errorCount(-3), 1);
    due.is("errorCount(-4) after undo()", w.errorCount(-4), 1);
  }

  private static void statesThatRemain(Due due) {
    Works.refused(due, "undo() of a new work", new StrikingWork(), -4, x -> x.undo());
    StrikingWork w = new StrikingWork();
    for (int i = 0; i < 8; i++) {
      w.run(7);
    }
    for (int left = 4; left >= 0; left--) {
      due.is("undo()", w.undo(), left);
    }
    Works.refused(due, "undo() of nothing more", w, -4, x -> x.undo());
    Works.refused(due, "undo() of nothing again", w, -4, x -> x.undo());
    w.run(0);
    due.is("undo() of one state", w.undo(), 0);
    StrikingWork asked = new StrikingWork();
    Works.values(asked);
    asked.blowsToCorrect(0);
    asked.handsToCorrect(0);
    asked.minutesToMiss(0);
    asked.digest();
    due.is("questions save nothing: undo()", asked.undo(), -4);
  }

  // ---- errors

  private static void addErrors(List<Sentence> all) {
    all.add(Sentence.in(DESCRIPTION, "2 to 24", "A call that returns an error code changes nothing "
        + "except that it increments the counter of that code.", StateSentences::errorsCount)
        .brokenBy("private int refuse(", "errors[errorIndex(code)]++;", "")
        .brokenBy("private int refuse(", "errors[errorIndex(code)]++", "errors[0]++")
        .brokenBy("private int refuse(", "errors[errorIndex(code)]++", "errors[2]++")
        .brokenBy("private int refuse(", "errors[errorIndex(code)]++",
            "errors[errorIndex(code)] = 1")
        .brokenBy("private int refuse(", "{", "{ save();")
        .brokenBy("private int refuse(", "{", "{ now.minute = 0;"));
  }

  private static void errorsCount(Due due) {
    // Without an hour mechanism, and without a saved state.
    StrikingWork w = Works.used();
    w.setMechanism(0, 0);
    Works.refused(due, "the first trip(0)", w, -3, x -> x.trip(0));
    Works.refused(due, "the second trip(0)", w, -3, x -> x.trip(0));
    Works.refused(due, "trip(2)", w, -2, x -> x.trip(2));
    due.is("four states are saved: undo()", w.undo(), 3);
    StrikingWork none = new StrikingWork();
    Works.refused(due, "the first undo()", none, -4, x -> x.undo());
    Works.refused(due, "the second undo()", none, -4, x -> x.undo());
    Works.refused(due, "run(1441)", none, -2, x -> x.run(1441));
    StrikingWork many = new StrikingWork();
    for (int i = 1; i <= 100; i++) {
      due.is("run(-1), time " + i, many.run(-1), -2);
    }
    due.is("errorCount(-2)", many.errorCount(-2), 100);
    due.is("errorCount(-3)", many.errorCount(-3), 0);
    due.is("errorCount(-4)", many.errorCount(-4), 0);
  }

  // ---- the constants

  private static void addConstants(List<Sentence> all) {
    all.add(Sentence.in(DESCRIPTION, "2 to 22 and 24",
        "- `OUT_OF_RANGE = -2`: An argument is not in its range.", due -> {
          due.is("OUT_OF_RANGE", StrikingWork.OUT_OF_RANGE, -2);
          Works.outOfRange(due, "run(1441)", x -> x.run(1441));
        })
        .brokenBy("public int run(", "refuse(OUT_OF_RANGE)", "refuse(NOT_POSSIBLE)"));
    all.add(Sentence.in(DESCRIPTION, "8", "- `NOT_POSSIBLE = -3`: The train cannot do this.",
        due -> {
          due.is("NOT_POSSIBLE", StrikingWork.NOT_POSSIBLE, -3);
          StrikingWork w = new StrikingWork();
          w.setMechanism(0, 0);
          Works.refused(due, "trip(0)", w, -3, x -> x.trip(0));
        })
        .brokenBy("public int trip(", "refuse(NOT_POSSIBLE)", "refuse(NOTHING_SAVED)"));
    all.add(Sentence.in(DESCRIPTION, "23", "- `NOTHING_SAVED = -4`: There is no saved state.",
        due -> {
          due.is("NOTHING_SAVED", StrikingWork.NOTHING_SAVED, -4);
          Works.refused(due, "undo()", new StrikingWork(), -4, x -> x.undo());
        })
        .brokenBy("public int undo()", "refuse(NOTHING_SAVED)", "refuse(NOT_POSSIBLE)"));
    all.add(Sentence.in(DESCRIPTION, "13, 20 and 21", "- `NONE = -1`: There is no such number.",
        due -> {
          StrikingWork w = Works.alone(0, 1);
          due.is("NONE", StrikingWork.NONE, -1);
          due.is("minutesToMiss(1) without a mechanism", w.minutesToMiss(1), -1);
          due.is("strikeMinute(0) of no entry", w.strikeMinute(0), -1);
          due.is("strikeTrain(0) of no entry", w.strikeTrain(0), -1);
          due.is("NONE is no error", w.errorCount(-2) + w.errorCount(-3) + w.errorCount(-4), 0);
        })
        .brokenBy("StrikingWork {", "NONE = -1", "NONE = -5")
        .brokenBy("public int strikeTrain(", ": NONE", ": refuse(OUT_OF_RANGE)"));
  }

  // ---- 24

  private static void addErrorCount(List<Sentence> all) {
    all.add(Sentence.of(24, "- `code`: an error code, -4 to -2", due -> {
      for (int code = -4; code <= -2; code++) {
        int c = code;
        Works.taken(due, "errorCount(" + c + ")", new StrikingWork(), w -> w.errorCount(c));
      }
      for (int code : new int[] {-5, -1, 0, 1, 2, Works.LEAST, Works.GREATEST}) {
        Works.outOfRange(due, "errorCount(" + code + ")", w -> w.errorCount(code));
      }
    })
        .brokenBy("public int errorCount(", "code < NOTHING_SAVED", "code < -5")
        .brokenBy("public int errorCount(", "code < NOTHING_SAVED", "code < -3")
        .brokenBy("public int errorCount(", "code > OUT_OF_RANGE", "code > -1")
        .brokenBy("public int errorCount(", "code > OUT_OF_RANGE", "code > -3"));
    all.add(StepSentences.refuses(Sentence.of(24, "Returns the counter of the code; OUT_OF_RANGE "
        + "if code is out of range (this increments the counter of OUT_OF_RANGE).",
        StateSentences::counters)
        .brokenBy("public int errorCount(", "errors[errorIndex(code)]", "errors[0]"),
        "errorCount"));
  }

  private static void counters(Due due) {
    StrikingWork w = new StrikingWork();
    w.setHands(-1);
    w.setMechanism(0, 0);
    w.trip(0);
    w.trip(0);
    w.undo();
    w.undo();
    w.undo();
    w.undo();
    due.is("errorCount(-2)", w.errorCount(-2), 1);
    due.is("errorCount(-3)", w.errorCount(-3), 2);
    due.is("errorCount(-4)", w.errorCount(-4), 3);
    due.is("errorCount(-1)", w.errorCount(-1), -2);
    due.is("errorCount(-2) with that one", w.errorCount(-2), 2);
    due.is("errorCount(-5)", w.errorCount(-5), -2);
    due.is("errorCount(-2) with both", w.errorCount(-2), 3);
    due.is("errorCount(-2) counts no call in range", w.errorCount(-2), 3);
    due.is("errorCount(-3) is left", w.errorCount(-3), 2);
    due.is("errorCount(-4) is left", w.errorCount(-4), 3);
  }

  // ---- 25

  private static void addDigest(List<Sentence> all) {
    all.add(Sentence.of(25, "Start with h = 2657 and, for each of the following values v, "
        + "set h = 31 * h + v", StateSentences::hashOfNewWork)
        .brokenBy("StrikingWork {", "DIGEST_START = 2657L", "DIGEST_START = 2658L")
        .brokenBy("public long digest()", "31L * h + errors[i]", "33L * h + errors[i]"));
    all.add(Sentence.of(25, "the counters of the codes -2, -3, -4; the shown minute",
        StateSentences::hashOfErrors)
        .brokenBy("public long digest()", "i < ERROR_CODES", "i < ERROR_CODES - 1")
        .brokenBy("private static int errorIndex(", "OUT_OF_RANGE - code", "code + 4")
        .brokenBy("class State", "31L * hash + minute", "31L * hash"));
    all.add(hashOfTrainsSentence());
    all.add(Sentence.of(25, "the silence mode, beginning and end", due -> {
      StrikingWork w = new StrikingWork();
      w.setSilence(2, 1439, 0);
      due.is("digest()", w.digest(),
          hash(0, 0, 0, 0, 1, 1, 2000, 0, 0, 1, 0, 1, 1, 2000, 0, 0, 1, 0, 2, 1439, 0, 0, 1));
      w.setSilence(0, 1438, 1439);
      due.is("digest() in mode 0", w.digest(),
          hash(0, 0, 0, 0, 1, 1, 2000, 0, 0, 1, 0, 1, 1, 2000, 0, 0, 1, 0, 0, 1438, 1439, 0, 2));
    })
        .brokenBy("class State", "31L * h + silenceMode", "31L * h")
        .brokenBy("class State", "31L * h + silenceBegin", "31L * h")
        .brokenBy("class State", "31L * h + silenceEnd", "31L * h"));
    all.add(Sentence.of(25, "the number of entries of the record and, for each entry, the latest "
        + "first, its minute, its train, its number of blows (negative if they did not sound)",
        StateSentences::hashOfRecord)
        .brokenBy("long addToHash(long hash) {\n      long h = 31L * hash + count",
            "31L * hash + count", "31L * hash + RECORD_SIZE")
        .brokenBy("long h = 31L * hash + count", "i < count", "i < RECORD_SIZE")
        .brokenBy("long h = 31L * hash + count", "+ blows[i]", "+ Math.abs(blows[i])")
        .brokenBy("long h = 31L * hash + count", "+ minutes[i]", "+ minutes[count - 1 - i]"));
    all.add(Sentence.of(25, "the number of saved states.", due -> {
      StrikingWork w = new StrikingWork();
      long digest = w.digest();
      for (int calls = 1; calls <= 7; calls++) {
        w.setHands(0);
        due.is("digest() after " + calls + " calls that save", w.digest(),
            digest + Math.min(calls, 5));
      }
      w.undo();
      due.is("digest() after undo()", w.digest(), digest + 4);
    })
        .brokenBy("public long digest()", "31L * h + savedCount", "31L * h")
        .brokenBy("StrikingWork {", "SAVED_SIZE = 5", "SAVED_SIZE = 6"));
    all.add(Sentence.of(25, "Returns the hash, with the overflow of long arithmetic ignored.",
        due -> {
          hashOfNewWork(due);
          boolean below = false;
          boolean above = false;
          StrikingWork w = new StrikingWork();
          for (int i = 0; i < 20; i++) {
            w.run(15);
            below |= w.digest() < Integer.MIN_VALUE;
            above |= w.digest() > Integer.MAX_VALUE;
          }
          due.holds("some digests are beyond int on either side", below && above);
        })
        .brokenBy("public long digest()", "return 31L * h + savedCount",
            "return (int) (31L * h + savedCount)")
        .brokenBy("public long digest()", "return 31L * h + savedCount",
            "return Math.abs(31L * h + savedCount)"));
  }

  private static long hash(int... values) {
    long h = 2657;
    for (int v : values) {
      h = 31 * h + v;
    }
    return h;
  }

  private static Sentence hashOfTrainsSentence() {
    Sentence s = Sentence.of(25, "for each train its mechanism, position, weight, number of "
        + "sounded blows, number of missed releases, next due number and lag",
        StateSentences::hashOfTrains)
        .brokenBy("class Train", "31L * hash + mechanism", "31L * hash");
    for (String value : new String[] {
        "position", "weight", "sounded", "missed", "dueAfter(minute)", "lagAt(minute)"}) {
      s.brokenBy("long h = 31L * hash + mechanism", "31L * h + " + value, "31L * h");
    }
    return s.brokenBy("class State", "h = hours.addToHash(h, minute);\n", "")
        .brokenBy("class State", "h = quarters.addToHash(h, minute);\n", "");
  }

  private static void hashOfNewWork(Due due) {
    due.is("digest() of a new work", new StrikingWork().digest(),
        hash(0, 0, 0, 0, 1, 1, 2000, 0, 0, 1, 0, 1, 1, 2000, 0, 0, 1, 0, 0, 0, 0, 0, 0));
  }

  private static void hashOfErrors(Due due) {
    StrikingWork w = new StrikingWork();
    w.undo();
    w.undo();
    w.undo();
    w.setMechanism(1, 0);
    w.setHands(1439);
    w.trip(1);
    w.trip(1);
    w.trip(2);
    due.is("digest()", w.digest(), hash(1, 2, 3, 1439,
        1, 1, 2000, 0, 0, 12, 11, 0, 1, 2000, 0, 0, 4, 0, 0, 0, 0, 0, 2));
  }

  private static void hashOfTrains(Due due) {
    // The hour wheel misses with 11 units, the quarter rack with 3; then a trip each.
    StrikingWork w = Works.withUnits(11, 3);
    w.setMechanism(1, 2);
    w.setPosition(0, 12);
    w.setPosition(1, 4);
    w.setHands(719);
    int[] missed = {w.missed(0) + 1, w.missed(1) + 1};
    w.run(1);
    w.setPosition(0, 2);
    int[] sounded = {w.sounded(0) + 2, w.sounded(1) + 1};
    w.trip(0);
    w.trip(1);
    int[] r = new int[18];
    for (int i = 0; i < 6; i++) {
      r[3 * i] = w.strikeMinute(i);
      r[3 * i + 1] = w.strikeTrain(i);
      r[3 * i + 2] = w.strikeBlows(i);
    }
    due.is("digest()", w.digest(), hash(0, 0, 0, 720,
        1, 3, 9, sounded[0], missed[0], 1, 10,
        2, 4, 2, sounded[1], missed[1], 1, 0,
        0, 0, 0,
        6, r[0], r[1], r[2], r[3], r[4], r[5], r[6], r[7], r[8], r[9], r[10], r[11], r[12], r[13],
        r[14], r[15], r[16], r[17], 5));
  }

  private static void hashOfRecord(Due due) {
    StrikingWork w = new StrikingWork();
    w.setSilence(2, 20, 40);
    due.is("digest() of an empty record", w.digest(),
        hash(0, 0, 0, 0, 1, 1, 2000, 0, 0, 1, 0, 1, 1, 2000, 0, 0, 1, 0, 2, 20, 40, 0, 1));
    w.run(15);
    due.is("digest() of one entry", w.digest(),
        hash(0, 0, 0, 15, 1, 1, 2000, 0, 0, 1, 0, 1, 2, 1999, 1, 0, 2, 0, 2, 20, 40,
            1, 15, 1, 1, 2));
    w.run(15);
    due.is("digest() of a lifted entry", w.digest(),
        hash(0, 0, 0, 30, 1, 1, 2000, 0, 0, 1, 0, 1, 3, 1997, 1, 0, 3, 0, 2, 20, 40,
            2, 30, 1, -2, 15, 1, 1, 3));
    w.run(30);
    w.trip(0);
    w.trip(0);
    due.is("digest() of a full record", w.digest(),
        hash(0, 0, 0, 60, 1, 4, 1994, 6, 0, 2, 10, 1, 1, 1990, 8, 0, 1, 0, 2, 20, 40,
            6, 60, 0, 3, 60, 0, 2, 60, 0, 1, 60, 1, 4, 45, 1, 3, 30, 1, -2, 5));
  }
}
