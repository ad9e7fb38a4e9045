import java.util.Arrays;
import java.util.List;

/** The description's sentences on the number of calls, time, trains, weights and the release. */
final class TrainSentences {
  private static final String DESCRIPTION = "Description";

  private TrainSentences() {}

  static void addTo(List<Sentence> all) {
    all.add(Sentence.in("What it is", "1 to 25",
        "An object is used for at most 512 calls after it has been made; what later calls answer "
        + "is free.", TrainSentences::lastCalls)
        .brokenBy("class Train", "int sounded = 0", "short sounded = 0"));
    addTime(all);
    addTrains(all);
    addWeights(all);
    addRelease(all);
  }

  private static void addTime(List<Sentence> all) {
    all.add(Sentence.in(DESCRIPTION, "6, 7 and 14",
        "The clock shows a minute of the day, 0 to 1439.", TrainSentences::minutesOfTheDay)
        .brokenBy("boolean isMinute(", "minute < DAY", "minute <= DAY")
        .brokenBy("boolean isMinute(", "minute < DAY", "minute < DAY - 1")
        .brokenBy("boolean isMinute(", "minute >= 0", "minute >= -1")
        .brokenBy("public int run(", "(start + minutes) % DAY", "(start + minutes) % (DAY + 1)"));
    all.add(Sentence.in(DESCRIPTION, "9", "The hour of a minute is the minute divided by 60 "
        + "(rounded down).", TrainSentences::hourRoundedDown)
        .brokenBy("int dueAt(", "minute / HOUR %", "(minute + 30) / HOUR %")
        .brokenBy("int dueAt(", "minute / HOUR %", "(minute + 59) / HOUR %"));
    all.add(Sentence.in(DESCRIPTION, "6", "The hour number is the hour modulo 12, but 12 instead "
        + "of 0.", TrainSentences::hourNumbers)
        .brokenBy("int dueAt(", "% HOURS_ON_DIAL", "% 24")
        .brokenBy("int dueAt(", "due == 0 ?", "due == 0 && number == QUARTER_TRAIN ?"));
    all.add(Sentence.in(DESCRIPTION, "6", "The quarter number of a minute that is divisible by 15 "
        + "is the minute divided by 15, modulo 4, but 4 instead of 0.",
        TrainSentences::quarterNumbers)
        .brokenBy("int dueAt(", "% QUARTERS_IN_HOUR", "% 5")
        .brokenBy("int dueAt(", "due == 0 ?", "due == 0 && number == HOUR_TRAIN ?"));
  }

  private static void addTrains(List<Sentence> all) {
    all.add(Sentence.in(DESCRIPTION, "6 and 15",
        "There are two trains: train 0 strikes hours and train 1 strikes quarters.",
        TrainSentences::twoTrains)
        .brokenBy("boolean isTrain(", "train == QUARTER_TRAIN", "train >= QUARTER_TRAIN")
        .brokenBy("boolean isTrain(", "train == HOUR_TRAIN", "train <= HOUR_TRAIN")
        .brokenBy("class State", "number == HOUR_TRAIN", "number == QUARTER_TRAIN"));
    all.add(Sentence.in(DESCRIPTION, "2 and 6",
        "Each train has a mechanism: 0 = none, 1 = count wheel, 2 = rack.",
        TrainSentences::mechanisms)
        .brokenBy("public int setMechanism(", "> RACK", "> RACK + 1")
        .brokenBy("public int setMechanism(", "< NO_MECHANISM", "< NO_MECHANISM - 1")
        .brokenBy("StrikingWork {", "NO_MECHANISM = 0", "NO_MECHANISM = -1"));
    all.add(Sentence.in(DESCRIPTION, "3 and 8",
        "A count wheel has a position: the number of blows that it will strike next.",
        TrainSentences::positionIsNextBlows)
        .brokenBy("int releaseWith(", "int blows = blowsFor(due)", "int blows = due"));
    all.add(Sentence.in(DESCRIPTION, "3", "The position of the hour train is 1 to 12, that of the "
        + "quarter train is 1 to 4.", TrainSentences::positions)
        .brokenBy("public int setPosition(", "position < 1", "position < 0")
        .brokenBy("public int setPosition(", "position < 1", "position < 2")
        .brokenBy("public int setPosition(", "now.trainOf(train).lastPosition()", "12")
        .brokenBy("public int setPosition(", "now.trainOf(train).lastPosition()", "4"));
    all.add(Sentence.in(DESCRIPTION, "6, 8 and 15", "After striking, the position increases by 1; "
        + "after 12 (4 for the quarter train) it becomes 1.", TrainSentences::positionAdvances)
        .brokenBy("int positionAfter(", "from == lastPosition() ? 1", "from == 12 ? 1")
        .brokenBy("int positionAfter(", "from == lastPosition() ? 1", "from == 4 ? 1")
        .brokenBy("int positionAfter(", "from + 1", "from + 2"));
    all.add(Sentence.in(DESCRIPTION, "2, 3, 6, 8 and 15", "A position exists and is kept even "
        + "while the mechanism is not a count wheel, but only a count wheel uses it and changes "
        + "it by striking.", TrainSentences::positionIsKept)
        .brokenBy("int releaseWith(", "if (mechanism == COUNT_WHEEL)", "if (mechanism == RACK)")
        .brokenBy("int releaseWith(", "if (mechanism == COUNT_WHEEL)", "if (mechanism > 0)")
        .brokenBy("public int setMechanism(", "chosen.mechanism = mechanism;",
            "chosen.mechanism = mechanism; chosen.position = 1;")
        .brokenBy("int releaseWith(", "return 0;",
            "{ position = positionAfter(position); return 0; }"));
  }

  private static void addWeights(List<Sentence> all) {
    all.add(Sentence.in(DESCRIPTION, "5, 6 and 16",
        "Each train has a weight with a number of units, 0 to 2000.", TrainSentences::weights)
        .brokenBy("public int wind(", "Math.min(units, FULL_WEIGHT - chosen.weight)", "units")
        .brokenBy("StrikingWork {", "FULL_WEIGHT = 2000", "FULL_WEIGHT = 2001")
        .brokenBy("StrikingWork {", "FULL_WEIGHT = 2000", "FULL_WEIGHT = 1999")
        .brokenBy("boolean canStrike(", "weight >= blowsFor(due)", "weight >= 0"));
    all.add(Sentence.in(DESCRIPTION, "6, 8 and 16", "Each blow needs one unit of its own train.",
        TrainSentences::unitsOfItsOwn)
        .brokenBy("int releaseWith(", "weight -= blows", "weight -= 1")
        .brokenBy("int releaseWith(", "weight -= blows", "weight -= 2 * blows")
        .brokenBy("private int release(", "int blows = train.releaseWith(due)",
            "int blows = (train == now.hours ? now.quarters : now.hours).releaseWith(due)"));
  }

  private static void addRelease(List<Sentence> all) {
    all.add(Sentence.in(DESCRIPTION, "6", "Release of a train, with a due number (1 to 12 for the "
        + "hour train, 1 to 4 for the quarter train) and a flag that tells whether the hammers "
        + "are lifted.", TrainSentences::dueNumbers)
        .brokenBy("int dueAt(", "due == 0 ? lastPosition()", "due == 0 ? 0")
        .brokenBy("private int strikeQuarter(", "boolean lifted = now.hushesAt(now.minute)",
            "boolean lifted = false"));
    all.add(Sentence.in(DESCRIPTION, "6", "If the mechanism is none, nothing happens.",
        TrainSentences::noneDoesNothing)
        .brokenBy("int releaseWith(", "mechanism == NO_MECHANISM", "mechanism == 7")
        .brokenBy("int releaseWith(", "return 0;", "return due;")
        .brokenBy("int releaseWith(", "return 0;", "{ weight--; return 0; }"));
    all.add(Sentence.in(DESCRIPTION, "6", "Otherwise the number of blows is the position for a "
        + "count wheel and the due number for a rack.", TrainSentences::blowsOfMechanisms)
        .brokenBy("int blowsFor(", "? position : due", "? position : position")
        .brokenBy("int blowsFor(", "? position : due", "? due : due"));
    all.add(Sentence.in(DESCRIPTION, "6 and 18", "If the weight has fewer units than the number of "
        + "blows, the train does not run: the number of missed releases of the train increases by "
        + "1 and nothing else happens.", TrainSentences::fewerUnits)
        .brokenBy("boolean canStrike(", "weight >= blowsFor", "weight + 1 >= blowsFor")
        .brokenBy("int releaseWith(", "missed++;", "")
        .brokenBy("int releaseWith(", "missed++;", "missed += 2;")
        .brokenBy("int releaseWith(", "missed++;", "missed++; weight = 0;")
        .brokenBy("int releaseWith(", "missed++;", "missed++; position = positionAfter(position);")
        .brokenBy("if (blows == 0)", "return 0;",
            "{ now.strikes.put(now.minute, train.number, 0); return 0; }"));
    all.add(Sentence.in(DESCRIPTION, "6, 15, 16 and 20 to 22", "Otherwise the weight loses the "
        + "number of blows, a count wheel advances its position, and the strike is recorded.",
        TrainSentences::justEnoughUnits)
        .brokenBy("boolean canStrike(", "weight >= blowsFor", "weight > blowsFor")
        .brokenBy("int releaseWith(", "weight -= blows", "weight -= blows - 1")
        .brokenBy("int releaseWith(", "position = positionAfter(position);", "")
        .brokenBy("private int release(", "now.strikes.put(", "if (blows > 1) now.strikes.put("));
    all.add(Sentence.in(DESCRIPTION, "6 and 17", "If the hammers are not lifted, the blows sound "
        + "and are added to the number of blows that the train has sounded.",
        TrainSentences::blowsThatSound)
        .brokenBy("private int release(", "train.sounded += blows", "train.sounded += 1")
        .brokenBy("private int release(", "if (lifted) {",
            "if (lifted) { train.sounded += blows;"));
  }

  // ---- what it is

  private static void lastCalls(Due due) {
    StrikingWork w = new StrikingWork();
    for (int i = 0; i < 255; i++) {
      w.wind(1, 2000);
      w.run(1440);
    }
    due.is("sounded(1) as call 511", w.sounded(1), 255 * 240);
    due.is("minute() as call 512", w.minute(), 0);
    StrikingWork refused = new StrikingWork();
    for (int i = 0; i < 511; i++) {
      refused.undo();
    }
    due.is("errorCount(-4) as call 512", refused.errorCount(-4), 511);
    StrikingWork saving = new StrikingWork();
    for (int i = 1; i <= 510; i++) {
      saving.setHands(i);
    }
    due.is("undo() as call 511", saving.undo(), 4);
    due.is("minute() after it, as call 512", saving.minute(), 509);
  }

  // ---- time

  private static void minutesOfTheDay(Due due) {
    StrikingWork w = new StrikingWork();
    due.is("minute() at first", w.minute(), 0);
    for (int m : new int[] {0, 1, 1438, 1439}) {
      w.setHands(m);
      due.is("minute() after setHands(" + m + ")", w.minute(), m);
    }
    w.setHands(1438);
    w.run(1);
    due.is("minute() after a run to 1439", w.minute(), 1439);
    w.run(1);
    due.is("minute() after a run over 1439", w.minute(), 0);
    for (int m : Works.NO_MINUTES) {
      Works.outOfRange(due, "setHands(" + m + ")", x -> x.setHands(m));
    }
  }

  private static void hourRoundedDown(Due due) {
    StrikingWork w = new StrikingWork();
    for (int hour = 0; hour < 24; hour++) {
      for (int past : new int[] {0, 1, 29, 30, 59}) {
        w.setHands(hour * 60 + past);
        due.is("nextDue(0) at " + w.minute(), w.nextDue(0), hour % 12 + 1);
      }
    }
  }

  private static void hourNumbers(Due due) {
    int[] numbers = {12, 1, 2, 3, 4, 5, 6, 7, 8, 9, 10, 11};
    StrikingWork w = Works.alone(0, 2);
    for (int hour = 0; hour < 24; hour++) {
      due.is("a rack's blows at hour " + hour, Works.reach(w, hour * 60), numbers[hour % 12]);
    }
  }

  private static void quarterNumbers(Due due) {
    int[] numbers = {4, 1, 2, 3};
    StrikingWork w = Works.alone(1, 2);
    for (int m = 0; m < 1440; m += 15) {
      due.is("a rack's blows at " + m, Works.reach(w, m), numbers[m / 15 % 4]);
    }
  }

  // ---- trains

  private static void twoTrains(Due due) {
    StrikingWork w = new StrikingWork();
    w.run(60);
    Works.strike(due, "the hour", w, 0, 60, 0, 1);
    for (int i = 1; i <= 4; i++) {
      Works.strike(due, "a quarter", w, i, 75 - 15 * i, 1, 5 - i);
    }
    due.is("strikeMinute(5)", w.strikeMinute(5), -1);
    due.is("position(0)", w.position(0), 2);
    due.is("position(1)", w.position(1), 1);
    for (int t : Works.NO_TRAINS) {
      Works.outOfRange(due, "position(" + t + ")", x -> x.position(t));
    }
  }

  private static void mechanisms(Due due) {
    for (int t = 0; t < 2; t++) {
      int train = t;
      int[] blows = {0, Works.last(t), t == 0 ? 5 : 1};
      for (int m = 0; m <= 2; m++) {
        StrikingWork w = Works.alone(t, m);
        w.setPosition(t, Works.last(t));
        due.is("blows of train " + t + " by mechanism " + m, Works.reach(w, t == 0 ? 300 : 315),
            blows[m]);
        due.is("missed(" + t + ") of mechanism " + m, w.missed(t), 0);
      }
      for (int m : new int[] {-1, 3, Works.LEAST, Works.GREATEST}) {
        Works.outOfRange(due, "setMechanism(" + t + ", " + m + ")", x -> x.setMechanism(train, m));
      }
    }
  }

  private static void positionIsNextBlows(Due due) {
    for (int t = 0; t < 2; t++) {
      StrikingWork w = new StrikingWork();
      for (int p = Works.last(t); p >= 1; p--) {
        w.setPosition(t, p);
        due.is("trip(" + t + ") at position " + p, w.trip(t), p);
      }
    }
  }

  private static void positions(Due due) {
    for (int t = 0; t < 2; t++) {
      int train = t;
      StrikingWork w = new StrikingWork();
      for (int p : new int[] {Works.last(t), 1}) {
        Works.taken(due, "setPosition(" + t + ", " + p + ")", w, x -> x.setPosition(train, p));
        due.is("position(" + t + ")", w.position(t), p);
      }
      for (int p : new int[] {0, Works.last(t) + 1}) {
        Works.outOfRange(due, "setPosition(" + t + ", " + p + ")", x -> x.setPosition(train, p));
      }
    }
  }

  private static void positionAdvances(Due due) {
    for (int t = 0; t < 2; t++) {
      StrikingWork tripped = new StrikingWork();
      StrikingWork run = Works.alone(t, 1);
      for (int i = 0; i <= 2 * Works.last(t); i++) {
        int position = i % Works.last(t) + 1;
        due.is("position(" + t + ") after " + i + " trips", tripped.position(t), position);
        due.is("position(" + t + ") after " + i + " releases", run.position(t), position);
        tripped.trip(t);
        run.run(t == 0 ? 60 : 15);
      }
    }
  }

  private static void positionIsKept(Due due) {
    for (int t = 0; t < 2; t++) {
      int last = Works.last(t);
      for (int m = 0; m <= 2; m += 2) {
        StrikingWork w = new StrikingWork();
        w.setMechanism(t, m);
        due.is("setPosition with mechanism " + m, w.setPosition(t, last), 1);
        w.run(60);
        w.trip(t);
        due.is("position(" + t + ") kept by mechanism " + m, w.position(t), last);
        w.setMechanism(t, 1);
        due.is("position(" + t + ") of the wheel again", w.position(t), last);
        due.is("trip(" + t + ") of the wheel again", w.trip(t), last);
        due.is("position(" + t + ") after the wheel's strike", w.position(t), 1);
      }
      StrikingWork rack = Works.alone(t, 2);
      rack.setPosition(t, last);
      due.is("a rack does not use it", rack.trip(t), 1);
    }
  }

  // ---- weights

  private static void weights(Due due) {
    StrikingWork w = new StrikingWork();
    StrikingWork spent = Works.spent();
    for (int t = 0; t < 2; t++) {
      due.is("weight(" + t + ") of a new work", w.weight(t), 2000);
      due.is("wind(" + t + ", 1) of a full weight", w.wind(t, 1), 0);
      due.is("weight(" + t + ") is full", w.weight(t), 2000);
      due.is("weight(" + t + ") run down", spent.weight(t), 0);
    }
    spent.run(720);
    spent.setMechanism(0, 1);
    spent.setMechanism(1, 1);
    spent.run(720);
    for (int t = 0; t < 2; t++) {
      due.is("weight(" + t + ") is never less than 0", spent.weight(t), 0);
      due.is("wind(" + t + ", 2000) of an empty weight", spent.wind(t, 2000), 2000);
      due.is("weight(" + t + ") is full again", spent.weight(t), 2000);
    }
  }

  private static void unitsOfItsOwn(Due due) {
    for (int t = 0; t < 2; t++) {
      StrikingWork w = new StrikingWork();
      for (int p = 1; p <= Works.last(t); p++) {
        int before = w.weight(t);
        w.setPosition(t, p);
        w.trip(t);
        due.is("weight(" + t + ") after " + p + " blows", w.weight(t), before - p);
      }
      due.is("the other weight", w.weight(1 - t), 2000);
      StrikingWork one = t == 0 ? Works.withUnits(1, 0) : Works.withUnits(0, 1);
      due.is("trip of the train without units", one.trip(1 - t), -3);
      due.is("trip of the train with one unit", one.trip(t), 1);
      due.is("its weight", one.weight(t), 0);
      due.is("the other weight", one.weight(1 - t), 0);
    }
  }

  // ---- release

  private static void dueNumbers(Due due) {
    StrikingWork hours = Works.alone(0, 2);
    due.is("the least hour", Works.reach(hours, 60), 1);
    due.is("the greatest hour, at noon", Works.reach(hours, 720), 12);
    due.is("the greatest hour, at midnight", Works.reach(hours, 0), 12);
    StrikingWork quarters = Works.alone(1, 2);
    due.is("the least quarter", Works.reach(quarters, 15), 1);
    due.is("the greatest quarter", Works.reach(quarters, 60), 4);
    quarters.setSilence(2, 60, 61);
    due.is("lifted hammers", Works.reach(quarters, 60), 0);
    due.is("blows with lifted hammers", quarters.strikeBlows(0), -4);
  }

  private static void noneDoesNothing(Due due) {
    for (StrikingWork w : new StrikingWork[] {Works.withUnits(0, 0), Works.withUnits(2000, 2000)}) {
      w.setMechanism(0, 0);
      w.setMechanism(1, 0);
      int[] before = Works.values(w);
      due.is("run(1440)", w.run(1440), 0);
      due.holds("nothing happened in a day", Arrays.equals(before, Works.values(w)));
    }
  }

  private static void blowsOfMechanisms(Due due) {
    for (int t = 0; t < 2; t++) {
      int minute = t == 0 ? 60 : 15;
      int last = Works.last(t);
      StrikingWork wheel = Works.alone(t, 1);
      wheel.setPosition(t, last);
      due.is("the greatest position at the least due number", Works.reach(wheel, minute), last);
      due.is("the least position at the greatest due number", Works.reach(wheel, 0), 1);
      StrikingWork rack = Works.alone(t, 2);
      rack.setPosition(t, last);
      due.is("a rack at the least due number", Works.reach(rack, minute), 1);
      rack.setPosition(t, 1);
      due.is("a rack at the greatest due number", Works.reach(rack, 0), last);
    }
  }

  /** A work with these units, whose train strikes this number of blows when the hands reach 0. */
  private static StrikingWork ready(int train, int mechanism, int blows, int units) {
    StrikingWork w = train == 0 ? Works.withUnits(units, 0) : Works.withUnits(0, units);
    w.setMechanism(1 - train, 0);
    w.setMechanism(train, mechanism);
    w.setPosition(train, blows);
    w.setHands(1439);
    return w;
  }

  private static void fewerUnits(Due due) {
    for (int t = 0; t < 2; t++) {
      for (int p = 1; p <= Works.last(t); p++) {
        misses(due, ready(t, 1, p, p - 1), t);
      }
      misses(due, ready(t, 1, Works.last(t), 0), t);
      misses(due, ready(t, 2, 1, Works.last(t) - 1), t);
    }
  }

  private static void misses(Due due, StrikingWork w, int train) {
    int missed = w.missed(train);
    w.setHands(0);
    int[] before = Works.values(w);
    w.setHands(1439);
    String name = "train " + train + " with " + w.weight(train) + " units";
    due.is(name + ": run(1)", w.run(1), 0);
    due.is(name + ": missed", w.missed(train), missed + 1);
    int[] after = Works.values(w);
    for (int i = 0; i < before.length; i++) {
      boolean isMissed = i == 4 + 6 * train;
      due.is(name + ": value " + i, after[i], before[i] + (isMissed ? 1 : 0));
    }
    w.run(1);
    due.is(name + ": only a release is missed", w.missed(train), missed + 1);
  }

  private static void justEnoughUnits(Due due) {
    for (int t = 0; t < 2; t++) {
      int last = Works.last(t);
      for (int p = 1; p <= last; p++) {
        runs(due, ready(t, 1, p, p), t, p, p % last + 1);
      }
      runs(due, ready(t, 2, 3, last), t, last, 3);
    }
  }

  private static void runs(Due due, StrikingWork w, int train, int blows, int positionAfter) {
    int missed = w.missed(train);
    String name = "train " + train + " with just " + blows + " units";
    due.is(name + ": run(1)", w.run(1), blows);
    due.is(name + ": weight", w.weight(train), 0);
    due.is(name + ": position", w.position(train), positionAfter);
    due.is(name + ": missed", w.missed(train), missed);
    Works.strike(due, name, w, 0, 0, train, blows);
  }

  private static void blowsThatSound(Due due) {
    for (int t = 0; t < 2; t++) {
      StrikingWork w = Works.alone(t, 2);
      due.is("run to midnight", Works.reach(w, 0), Works.last(t));
      due.is("sounded(" + t + ")", w.sounded(t), Works.last(t));
      due.is("sounded of the other train", w.sounded(1 - t), 0);
      w.setSilence(2, 0, 1);
      due.is("run to midnight with lifted hammers", Works.reach(w, 0), 0);
      due.is("sounded(" + t + ") as before", w.sounded(t), Works.last(t));
      due.is("weight(" + t + ")", w.weight(t), 2000 - 2 * Works.last(t));
    }
  }
}
