import java.util.List;
import java.util.function.ToIntFunction;

/** The sentences of promises 1 to 8: a new object, and the calls that change it. */
final class ChangeSentences {
  private static final String TRAIN = "- `train`: 0 or 1";
  private static final String ARGUMENTS = "OUT_OF_RANGE if an argument is out of range.";

  interface TrainCall {
    int on(StrikingWork w, int train);
  }

  private ChangeSentences() {}

  static void addTo(List<Sentence> all) {
    all.add(Sentence.of(1, "Creates a work that shows minute 0, with two count wheels at position "
        + "1, weights of 2000 units, silence mode 0 with beginning and end 0, an empty record, "
        + "and all counts 0.", ChangeSentences::newWork)
        .brokenBy("class State", "int minute = 0", "int minute = 1")
        .brokenBy("class State", "silenceMode = SILENCE_OFF", "silenceMode = TRAINS_BLOCKED")
        .brokenBy("class State", "silenceBegin = 0", "silenceBegin = 1")
        .brokenBy("class State", "silenceEnd = 0", "silenceEnd = 1")
        .brokenBy("class Train", "mechanism = COUNT_WHEEL", "mechanism = RACK")
        .brokenBy("class Train", "int position = 1", "int position = 2")
        .brokenBy("class Train", "weight = FULL_WEIGHT", "weight = FULL_WEIGHT - 1")
        .brokenBy("class Train", "sounded = 0", "sounded = 1")
        .brokenBy("class Train", "missed = 0", "missed = 1")
        .brokenBy("class Strikes", "count = 0", "count = 1")
        .brokenBy("StrikingWork {", "savedCount = 0", "savedCount = 1")
        .brokenBy("public StrikingWork()", "{", "{ refuse(NOT_POSSIBLE);"));
    addSetMechanism(all);
    addSetPosition(all);
    addSetSilence(all);
    addWind(all);
    addRun(all);
    addSetHands(all);
    addTrip(all);
  }

  /** The sentence on the train that nearly each promise has. */
  static Sentence trains(int promise, String method, TrainCall call) {
    return Sentence.of(promise, TRAIN, due -> {
      for (int t : new int[] {0, 1}) {
        Works.taken(due, method + " of train " + t, new StrikingWork(), w -> call.on(w, t));
      }
      for (int t : Works.NO_TRAINS) {
        Works.outOfRange(due, method + " of train " + t, w -> call.on(w, t));
      }
    })
        .brokenBy("public int " + method + "(", "isTrain(train)", "(train >= 0)")
        .brokenBy("public int " + method + "(", "isTrain(train)", "(train <= 1)")
        .brokenBy("public int " + method + "(", "isTrain(train)", "(train == 1)")
        .brokenBy("public int " + method + "(", "isTrain(train)", "(train == 0)");
  }

  /** "Undoable." of a method: what it saves with a change and without, and not if refused. */
  private static Sentence undoable(int promise, String method, ToIntFunction<StrikingWork> change,
      ToIntFunction<StrikingWork> same, ToIntFunction<StrikingWork> refused) {
    return Sentence.of(promise, "Undoable.", due -> {
      Works.saves(due, method + " on a used work", Works.used(), 3, change);
      Works.saves(due, method + " on a new work", new StrikingWork(), 0, change);
      Works.saves(due, method + " without a change", new StrikingWork(), 0, same);
      StrikingWork five = Works.used();
      five.run(0);
      five.run(0);
      change.applyAsInt(five);
      due.is("undo() of " + method + " with five states", five.undo(), 4);
      StrikingWork w = Works.used();
      refused.applyAsInt(w);
      due.is("a refused " + method + " saves nothing: undo()", w.undo(), 2);
    })
        .brokenBy("public int " + method + "(", "save();", "")
        .brokenBy("public int " + method + "(", "save();", "save(); save();")
        .brokenBy("public int " + method + "(", "{", "{ save();")
        .brokenBy("public int " + method + "(", "return refuse(", "save(); return refuse(");
  }

  private static void newWork(Due due) {
    StrikingWork w = new StrikingWork();
    due.is("minute()", w.minute(), 0);
    for (int t = 0; t < 2; t++) {
      due.is("position(" + t + ")", w.position(t), 1);
      due.is("weight(" + t + ")", w.weight(t), 2000);
      due.is("sounded(" + t + ")", w.sounded(t), 0);
      due.is("missed(" + t + ")", w.missed(t), 0);
      due.is("the mechanism of train " + t, new StrikingWork().setMechanism(t, 1), 1);
    }
    Works.strike(due, "an empty record", w, 0, -1, -1, 0);
    for (int code = -4; code <= -2; code++) {
      due.is("errorCount(" + code + ")", w.errorCount(code), 0);
    }
    due.is("the silence's mode", new StrikingWork().setSilence(0, 0, 0), 0);
    StrikingWork same = new StrikingWork();
    same.setSilence(0, 0, 0);
    due.is("digest() knows the beginning and the end", same.digest(), w.digest() + 1);
    due.is("undo()", w.undo(), -4);
  }

  // ---- 2

  private static void addSetMechanism(List<Sentence> all) {
    all.add(Sentence.of(2, "Its position and weight stay as they are.", due -> {
      StrikingWork w = Works.withUnits(1, 0);
      w.setPosition(0, 12);
      w.setPosition(1, 4);
      for (int m : new int[] {0, 2, 1}) {
        for (int t = 0; t < 2; t++) {
          w.setMechanism(t, m);
          due.is("position(" + t + ") with mechanism " + m, w.position(t), Works.last(t));
          due.is("weight(" + t + ") with mechanism " + m, w.weight(t), 1 - t);
        }
      }
    })
        .brokenBy("public int setMechanism(", "chosen.mechanism = mechanism;",
            "chosen.mechanism = mechanism; chosen.position = 1;")
        .brokenBy("public int setMechanism(", "chosen.mechanism = mechanism;",
            "chosen.mechanism = mechanism; chosen.weight = 0;"));
    all.add(undoable(2, "setMechanism", w -> w.setMechanism(0, 0), w -> w.setMechanism(0, 1),
        w -> w.setMechanism(0, 3))
        .brokenBy("public int setMechanism(", "save();",
            "if (now.trainOf(train).mechanism != mechanism) save();"));
    all.add(trains(2, "setMechanism", (w, t) -> w.setMechanism(t, 1)));
    all.add(Sentence.of(2, "- `mechanism`: 0 to 2", due -> {
      for (int t = 0; t < 2; t++) {
        int train = t;
        for (int m : new int[] {0, 2}) {
          Works.taken(due, "setMechanism(" + t + ", " + m + ")", new StrikingWork(),
              w -> w.setMechanism(train, m));
        }
        for (int m : new int[] {-1, 3, Works.LEAST, Works.GREATEST}) {
          Works.outOfRange(due, "setMechanism(" + t + ", " + m + ")",
              w -> w.setMechanism(train, m));
        }
      }
    })
        .brokenBy("public int setMechanism(", "mechanism > RACK", "mechanism > 3")
        .brokenBy("public int setMechanism(", "mechanism > RACK", "mechanism > 1")
        .brokenBy("public int setMechanism(", "mechanism < NO_MECHANISM", "mechanism < -1")
        .brokenBy("public int setMechanism(", "mechanism < NO_MECHANISM", "mechanism < 1"));
    all.add(Sentence.of(2, "Returns the previous mechanism; " + ARGUMENTS, due -> {
      for (int t = 0; t < 2; t++) {
        StrikingWork w = new StrikingWork();
        due.is("from 1 to 0", w.setMechanism(t, 0), 1);
        due.is("from 0 to 2", w.setMechanism(t, 2), 0);
        due.is("from 2 to 2", w.setMechanism(t, 2), 2);
        due.is("the other train", w.setMechanism(1 - t, 1), 1);
      }
      Works.outOfRange(due, "setMechanism(2, 3)", w -> w.setMechanism(2, 3));
    })
        .brokenBy("public int setMechanism(", "return previous", "return mechanism")
        .brokenBy("public int setMechanism(", "refuse(OUT_OF_RANGE)", "OUT_OF_RANGE")
        .brokenBy("public int setMechanism(", "refuse(OUT_OF_RANGE)", "refuse(NOT_POSSIBLE)"));
  }

  // ---- 3

  private static void addSetPosition(List<Sentence> all) {
    all.add(undoable(3, "setPosition", w -> w.setPosition(1, 2), w -> w.setPosition(1, 1),
        w -> w.setPosition(1, 5))
        .brokenBy("public int setPosition(", "save();",
            "if (now.trainOf(train).position != position) save();"));
    all.add(trains(3, "setPosition", (w, t) -> w.setPosition(t, 1)));
    all.add(Sentence.of(3, "- `position`: 1 to 12 for train 0, 1 to 4 for train 1", due -> {
      for (int t = 0; t < 2; t++) {
        int train = t;
        for (int p = 1; p <= Works.last(t); p++) {
          int position = p;
          Works.taken(due, "setPosition(" + t + ", " + p + ")", new StrikingWork(),
              w -> w.setPosition(train, position));
        }
        for (int p : new int[] {0, -1, Works.last(t) + 1, Works.LEAST, Works.GREATEST}) {
          Works.outOfRange(due, "setPosition(" + t + ", " + p + ")", w -> w.setPosition(train, p));
        }
      }
    })
        .brokenBy("public int setPosition(", "position < 1", "position < 0")
        .brokenBy("public int setPosition(", "position < 1", "position < 2")
        .brokenBy("public int setPosition(", "position > now", "position >= now")
        .brokenBy("public int setPosition(", "position > now", "position > 1 + now")
        .brokenBy("public int setPosition(", "now.trainOf(train).lastPosition()", "12"));
    all.add(Sentence.of(3, "Returns the previous position; " + ARGUMENTS, due -> {
      for (int t = 0; t < 2; t++) {
        StrikingWork w = new StrikingWork();
        due.is("from 1 to the last", w.setPosition(t, Works.last(t)), 1);
        due.is("from the last to the last", w.setPosition(t, Works.last(t)), Works.last(t));
        due.is("from the last to 1", w.setPosition(t, 1), Works.last(t));
        due.is("the other train", w.setPosition(1 - t, 3), 1);
      }
      Works.outOfRange(due, "setPosition(2, 0)", w -> w.setPosition(2, 0));
    })
        .brokenBy("public int setPosition(", "return previous", "return position")
        .brokenBy("public int setPosition(", "refuse(OUT_OF_RANGE)", "OUT_OF_RANGE")
        .brokenBy("public int setPosition(", "refuse(OUT_OF_RANGE)", "refuse(NOTHING_SAVED)"));
  }

  // ---- 4

  private static void addSetSilence(List<Sentence> all) {
    all.add(undoable(4, "setSilence", w -> w.setSilence(1, 1439, 0), w -> w.setSilence(0, 0, 0),
        w -> w.setSilence(0, 0, 1440))
        .brokenBy("public int setSilence(", "save();", "if (mode != now.silenceMode) save();"));
    all.add(Sentence.of(4, "- `mode`: 0 to 2", due -> {
      for (int m : new int[] {0, 1, 2}) {
        Works.taken(due, "setSilence(" + m + ", 0, 0)", new StrikingWork(),
            w -> w.setSilence(m, 0, 0));
      }
      for (int m : new int[] {-1, 3, Works.LEAST, Works.GREATEST}) {
        Works.outOfRange(due, "setSilence(" + m + ", 0, 0)", w -> w.setSilence(m, 0, 0));
      }
    })
        .brokenBy("public int setSilence(", "mode >= SILENCE_OFF", "mode >= -1")
        .brokenBy("public int setSilence(", "mode >= SILENCE_OFF", "mode >= 1")
        .brokenBy("public int setSilence(", "mode <= HAMMERS_LIFTED", "mode <= 3")
        .brokenBy("public int setSilence(", "mode <= HAMMERS_LIFTED", "mode <= 1"));
    all.add(Sentence.of(4, "- `begin`: beginning, 0 to 1439", due -> {
      for (int m : new int[] {0, 1439}) {
        Works.taken(due, "setSilence(0, " + m + ", 7)", new StrikingWork(),
            w -> w.setSilence(0, m, 7));
      }
      for (int m : Works.NO_MINUTES) {
        Works.outOfRange(due, "setSilence(0, " + m + ", 7)", w -> w.setSilence(0, m, 7));
      }
    })
        .brokenBy("public int setSilence(", "!isMinute(begin)", "begin < 0")
        .brokenBy("public int setSilence(", "!isMinute(begin)", "begin > 1439")
        .brokenBy("public int setSilence(", "!isMinute(begin)", "!isMinute(begin - 1)"));
    all.add(Sentence.of(4, "- `end`: end, 0 to 1439", due -> {
      for (int m : new int[] {0, 1439}) {
        Works.taken(due, "setSilence(0, 7, " + m + ")", new StrikingWork(),
            w -> w.setSilence(0, 7, m));
      }
      for (int m : Works.NO_MINUTES) {
        Works.outOfRange(due, "setSilence(0, 7, " + m + ")", w -> w.setSilence(0, 7, m));
      }
    })
        .brokenBy("public int setSilence(", "!isMinute(end)", "end < 0")
        .brokenBy("public int setSilence(", "!isMinute(end)", "end > 1439")
        .brokenBy("public int setSilence(", "!isMinute(end)", "!isMinute(end + 1)"));
    all.add(Sentence.of(4, "Returns the previous mode; " + ARGUMENTS, due -> {
      StrikingWork w = new StrikingWork();
      due.is("from 0 to 2", w.setSilence(2, 0, 1439), 0);
      due.is("from 2 to 1", w.setSilence(1, 1439, 0), 2);
      due.is("from 1 to 1", w.setSilence(1, 5, 5), 1);
      due.is("from 1 to 0", w.setSilence(0, 5, 9), 1);
      Works.outOfRange(due, "setSilence(3, -1, 1440)", x -> x.setSilence(3, -1, 1440));
    })
        .brokenBy("public int setSilence(", "return previous", "return mode")
        .brokenBy("public int setSilence(", "refuse(OUT_OF_RANGE)", "OUT_OF_RANGE")
        .brokenBy("public int setSilence(", "refuse(OUT_OF_RANGE)", "refuse(NOT_POSSIBLE)"));
  }

  // ---- 5

  private static void addWind(List<Sentence> all) {
    all.add(Sentence.of(5, "Winds a train: its weight gets more units, but at most 2000 in all.",
        ChangeSentences::atMost2000)
        .brokenBy("public int wind(", "Math.min(units, FULL_WEIGHT - chosen.weight)", "units")
        .brokenBy("public int wind(", "FULL_WEIGHT - chosen.weight",
            "1 + FULL_WEIGHT - chosen.weight")
        .brokenBy("public int wind(", "FULL_WEIGHT - chosen.weight",
            "FULL_WEIGHT - chosen.weight - 1"));
    all.add(undoable(5, "wind", w -> w.wind(1, 1), w -> w.wind(1, 2000), w -> w.wind(1, 0))
        .brokenBy("public int wind(", "save();",
            "if (now.trainOf(train).weight < FULL_WEIGHT) save();"));
    all.add(trains(5, "wind", (w, t) -> w.wind(t, 1)));
    all.add(Sentence.of(5, "- `units`: 1 to 2000", due -> {
      for (int t = 0; t < 2; t++) {
        int train = t;
        for (int u : new int[] {1, 2000}) {
          StrikingWork w = Works.withUnits(0, 0);
          Works.taken(due, "wind(" + t + ", " + u + ")", w, x -> x.wind(train, u));
          due.is("weight(" + t + ") after wind(" + t + ", " + u + ")", w.weight(t), u);
        }
        for (int u : new int[] {0, -1, 2001, Works.LEAST, Works.GREATEST}) {
          Works.outOfRange(due, "wind(" + t + ", " + u + ")", w -> w.wind(train, u));
        }
      }
    })
        .brokenBy("public int wind(", "units < 1", "units < 0")
        .brokenBy("public int wind(", "units < 1", "units < 2")
        .brokenBy("public int wind(", "units > FULL_WEIGHT", "units > 2001")
        .brokenBy("public int wind(", "units > FULL_WEIGHT", "units > 1999"));
    all.add(Sentence.of(5, "Returns the number of units that the weight gained; " + ARGUMENTS,
        due -> {
          StrikingWork w = Works.withUnits(0, 0);
          for (int t = 0; t < 2; t++) {
            due.is("wind(" + t + ", 1999)", w.wind(t, 1999), 1999);
            due.is("wind(" + t + ", 2) with room for one", w.wind(t, 2), 1);
            due.is("wind(" + t + ", 1) of a full weight", w.wind(t, 1), 0);
            due.is("wind(" + t + ", 2000) of a full weight", w.wind(t, 2000), 0);
          }
          Works.outOfRange(due, "wind(-1, 0)", x -> x.wind(-1, 0));
        })
        .brokenBy("public int wind(", "return gained", "return units")
        .brokenBy("public int wind(", "refuse(OUT_OF_RANGE)", "OUT_OF_RANGE")
        .brokenBy("public int wind(", "refuse(OUT_OF_RANGE)", "refuse(NOT_POSSIBLE)"));
  }

  private static void atMost2000(Due due) {
    for (int t = 0; t < 2; t++) {
      StrikingWork w = Works.withUnits(0, 0);
      int[][] steps = {{1, 1}, {1998, 1999}, {1, 2000}, {1, 2000}, {2000, 2000}};
      for (int[] step : steps) {
        w.wind(t, step[0]);
        due.is("weight(" + t + ") after wind(" + t + ", " + step[0] + ")", w.weight(t), step[1]);
      }
      due.is("the other weight", w.weight(1 - t), 0);
      StrikingWork more = Works.withUnits(3, 3);
      more.wind(t, 2000);
      due.is("weight(" + t + ") of 3 and 2000 units", more.weight(t), 2000);
    }
  }

  // ---- 6

  private static void addRun(List<Sentence> all) {
    all.add(undoable(6, "run", w -> w.run(1440), w -> w.run(0), w -> w.run(-1))
        .brokenBy("public int run(", "save();", "if (minutes > 0) save();"));
    all.add(Sentence.of(6, "- `minutes`: number of minutes, 0 to 1440", due -> {
      for (int m : new int[] {0, 1, 1439, 1440}) {
        StrikingWork w = new StrikingWork();
        w.setHands(7);
        Works.taken(due, "run(" + m + ")", w, x -> x.run(m));
        due.is("minute() after run(" + m + ") from 7", w.minute(), (7 + m) % 1440);
      }
      for (int m : new int[] {-1, 1441, Works.LEAST, Works.GREATEST}) {
        Works.outOfRange(due, "run(" + m + ")", w -> w.run(m));
      }
    })
        .brokenBy("public int run(", "minutes < 0", "minutes < -1")
        .brokenBy("public int run(", "minutes < 0", "minutes < 1")
        .brokenBy("public int run(", "minutes > DAY", "minutes > DAY + 1")
        .brokenBy("public int run(", "minutes > DAY", "minutes >= DAY"));
    all.add(Sentence.of(6, "Returns the number of blows that sounded during these minutes, both "
        + "trains together; OUT_OF_RANGE if minutes is out of range.", ChangeSentences::blowsOfRun)
        .brokenBy("public int run(", "return heard", "return 0")
        .brokenBy("public int run(", "return heard",
            "return now.hours.sounded + now.quarters.sounded")
        .brokenBy("private int strikeQuarter(", "heard += release", "release")
        .brokenBy("private int release(", "if (lifted) {\n      return 0",
            "if (lifted) {\n      return blows")
        .brokenBy("public int run(", "refuse(OUT_OF_RANGE)", "OUT_OF_RANGE")
        .brokenBy("public int run(", "refuse(OUT_OF_RANGE)", "refuse(NOT_POSSIBLE)"));
  }

  private static void blowsOfRun(Due due) {
    StrikingWork w = new StrikingWork();
    due.is("run(0)", w.run(0), 0);
    due.is("run(14)", w.run(14), 0);
    due.is("run(1)", w.run(1), 1);
    due.is("run(0) at a quarter", w.run(0), 0);
    due.is("run(45)", w.run(45), 2 + 3 + 4 + 1);
    due.is("run(0) at an hour", w.run(0), 0);
    due.is("run(1440)", w.run(1440), 2 * 78 + 24 * 10);
    StrikingWork lifted = new StrikingWork();
    lifted.setSilence(2, 16, 60);
    due.is("run(60) with two lifted quarters", lifted.run(60), 1 + 4 + 1);
    StrikingWork light = Works.withUnits(0, 3);
    due.is("run(60) with 3 units", light.run(60), 1 + 2);
    Works.outOfRange(due, "run(-1)", x -> x.run(-1));
  }

  // ---- 7

  private static void addSetHands(List<Sentence> all) {
    all.add(Sentence.of(7, "Sets the hands without releasing any train.", due -> {
      StrikingWork w = new StrikingWork();
      for (int m : new int[] {15, 60, 720, 1439, 0, 0}) {
        w.setHands(m);
        due.is("minute()", w.minute(), m);
        due.is("weights after setHands(" + m + ")", w.weight(0) + w.weight(1), 4000);
        due.is("positions", w.position(0) + w.position(1), 2);
        due.is("entries", Works.entries(w), 0);
      }
      StrikingWork light = Works.withUnits(0, 0);
      int missed = light.missed(0) + light.missed(1);
      light.setHands(59);
      light.setHands(60);
      due.is("missed releases", light.missed(0) + light.missed(1), missed);
    })
        .brokenBy("public int setHands(", "now.minute = minute;",
            "now.minute = minute; if (minute % 15 == 0) strikeQuarter();"));
    all.add(undoable(7, "setHands", w -> w.setHands(1439), w -> w.setHands(0),
        w -> w.setHands(1440))
        .brokenBy("public int setHands(", "save();", "if (minute != now.minute) save();"));
    all.add(Sentence.of(7, "- `minute`: the minute to show, 0 to 1439", due -> {
      for (int m : new int[] {0, 1439}) {
        StrikingWork w = Works.used();
        Works.taken(due, "setHands(" + m + ")", w, x -> x.setHands(m));
        due.is("minute() after setHands(" + m + ")", w.minute(), m);
      }
      for (int m : Works.NO_MINUTES) {
        Works.outOfRange(due, "setHands(" + m + ")", w -> w.setHands(m));
      }
    })
        .brokenBy("public int setHands(", "!isMinute(minute)", "minute < 0")
        .brokenBy("public int setHands(", "!isMinute(minute)", "minute > 1439")
        .brokenBy("public int setHands(", "!isMinute(minute)", "!isMinute(minute - 1)")
        .brokenBy("public int setHands(", "!isMinute(minute)", "!isMinute(minute + 1)"));
    all.add(Sentence.of(7, "Returns the minute that was shown before; OUT_OF_RANGE if minute is "
        + "out of range.", due -> {
          StrikingWork w = new StrikingWork();
          due.is("from 0 to 1439", w.setHands(1439), 0);
          due.is("from 1439 to 1439", w.setHands(1439), 1439);
          due.is("from 1439 to 0", w.setHands(0), 1439);
          Works.outOfRange(due, "setHands(1440)", x -> x.setHands(1440));
        })
        .brokenBy("public int setHands(", "return previous", "return minute")
        .brokenBy("public int setHands(", "refuse(OUT_OF_RANGE)", "OUT_OF_RANGE")
        .brokenBy("public int setHands(", "refuse(OUT_OF_RANGE)", "refuse(NOT_POSSIBLE)"));
  }

  // ---- 8

  private static void addTrip(List<Sentence> all) {
    all.add(Sentence.of(8, "Releases a train by hand, with its next due number and the hammers not "
        + "lifted, also in silence.", ChangeSentences::tripByHand)
        .brokenBy("public int trip(", "chosen.dueAfter(now.minute)", "chosen.dueAt(now.minute)")
        .brokenBy("public int trip(", "release(chosen, due, false)",
            "release(chosen, due, now.hushesAt(now.minute))")
        .brokenBy("public int trip(", "!chosen.canStrike(due)",
            "!chosen.canStrike(due) || now.blocksAt(now.minute)"));
    all.add(Sentence.of(8, "The strike is recorded with the shown minute.", due -> {
      for (int m : new int[] {0, 1, 59, 60, 1439}) {
        StrikingWork w = new StrikingWork();
        w.setHands(m);
        w.trip(0);
        w.trip(1);
        Works.strike(due, "the quarter train", w, 0, m, 1, 1);
        Works.strike(due, "the hour train", w, 1, m, 0, 1);
        due.is("minute()", w.minute(), m);
      }
    })
        .brokenBy("private int release(", "now.strikes.put(now.minute",
            "now.strikes.put((now.minute + 1) % DAY")
        .brokenBy("public int trip(", "return release(",
            "now.minute = (now.minute + 1) % DAY; return release("));
    // A trip that is done always changes something.
    all.add(undoable(8, "trip", w -> w.trip(0), w -> w.trip(1), w -> w.trip(2)));
    all.add(trains(8, "trip", StrikingWork::trip));
    all.add(Sentence.of(8, "Returns the number of blows that sounded; OUT_OF_RANGE if there is no "
        + "such train (checked first)", ChangeSentences::blowsOfTrip)
        .brokenBy("public int trip(", "return release(chosen, due, false)",
            "release(chosen, due, false); return 1")
        .brokenBy("public int trip(", "return refuse(OUT_OF_RANGE)",
            "return refuse(now.hours.mechanism == 0 ? NOT_POSSIBLE : OUT_OF_RANGE)")
        .brokenBy("public int trip(", "refuse(OUT_OF_RANGE)", "OUT_OF_RANGE"));
    all.add(Sentence.of(8, "NOT_POSSIBLE if the mechanism is none or the weight has too few units "
        + "for the blows (this is no missed release).", ChangeSentences::tripNotPossible)
        .brokenBy("boolean canStrike(", "weight >= blowsFor", "weight > blowsFor")
        .brokenBy("boolean canStrike(", "weight >= blowsFor", "weight + 1 >= blowsFor")
        .brokenBy("boolean canStrike(", "mechanism != NO_MECHANISM && ", "")
        .brokenBy("public int trip(", "refuse(NOT_POSSIBLE)", "NOT_POSSIBLE")
        .brokenBy("public int trip(", "refuse(NOT_POSSIBLE)", "refuse(OUT_OF_RANGE)")
        .brokenBy("public int trip(", "return refuse(NOT_POSSIBLE)",
            "chosen.missed++; return refuse(NOT_POSSIBLE)"));
  }

  private static void tripByHand(Due due) {
    for (int mode = 0; mode <= 2; mode++) {
      for (int m : new int[] {0, 14, 15, 59, 60, 660, 719, 720, 1380, 1439}) {
        StrikingWork w = new StrikingWork();
        w.setMechanism(0, 2);
        w.setMechanism(1, 2);
        w.setHands(m);
        w.setSilence(mode, m, (m + 1) % 1440);
        String name = " in mode " + mode + " at " + m;
        due.is("trip(0)" + name, w.trip(0), m / 60 % 12 + 1);
        due.is("trip(1)" + name, w.trip(1), m / 15 % 4 + 1);
        due.is("strikeBlows(0)" + name, w.strikeBlows(0), m / 15 % 4 + 1);
        due.is("sounded(0)" + name, w.sounded(0), m / 60 % 12 + 1);
        due.is("sounded(1)" + name, w.sounded(1), m / 15 % 4 + 1);
      }
    }
  }

  private static void blowsOfTrip(Due due) {
    for (int t = 0; t < 2; t++) {
      StrikingWork w = new StrikingWork();
      for (int p : new int[] {1, Works.last(t)}) {
        w.setPosition(t, p);
        due.is("trip(" + t + ") at position " + p, w.trip(t), p);
      }
    }
    for (int t : Works.NO_TRAINS) {
      StrikingWork none = Works.withUnits(0, 0);
      none.setMechanism(0, 0);
      none.setMechanism(1, 0);
      Works.refused(due, "trip(" + t + ") without mechanisms", none, -2, x -> x.trip(t));
    }
  }

  private static void tripNotPossible(Due due) {
    for (int t = 0; t < 2; t++) {
      int train = t;
      StrikingWork none = new StrikingWork();
      none.setMechanism(t, 0);
      Works.refused(due, "trip(" + t + ") without a mechanism", none, -3, x -> x.trip(train));
      due.is("it saved nothing: undo()", none.undo(), 0);
      for (int p = 1; p <= Works.last(t); p++) {
        StrikingWork light = t == 0 ? Works.withUnits(p - 1, 0) : Works.withUnits(0, p - 1);
        light.setPosition(t, p);
        String name = "trip(" + t + ") of " + p + " blows with ";
        Works.refused(due, name + (p - 1) + " units", light, -3, x -> x.trip(train));
        light.wind(t, 1);
        due.is(name + p + " units", light.trip(t), p);
      }
      StrikingWork rack = t == 0 ? Works.withUnits(11, 0) : Works.withUnits(0, 3);
      rack.setMechanism(t, 2);
      rack.setHands(1439);
      Works.refused(due, "trip of a rack, one unit too few", rack, -3, x -> x.trip(train));
    }
  }
}
