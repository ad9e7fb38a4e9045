import java.util.Arrays;
import java.util.List;

/** The sentences of promises 9 to 13: being in step, and how long a weight lasts. */
final class StepSentences {
  private static final String NO_TRAIN = "OUT_OF_RANGE if there is no such train.";

  private StepSentences() {}

  static void addTo(List<Sentence> all) {
    addNextDue(all);
    addLag(all);
    addBlowsToCorrect(all);
    addHandsToCorrect(all);
    addMinutesToMiss(all);
  }

  /** The call without a train answers OUT_OF_RANGE and is counted there. */
  static Sentence refuses(Sentence s, String method) {
    return s.brokenBy("public int " + method + "(", "refuse(OUT_OF_RANGE)", "OUT_OF_RANGE")
        .brokenBy("public int " + method + "(", "refuse(OUT_OF_RANGE)", "refuse(NOT_POSSIBLE)")
        .brokenBy("public int " + method + "(", "refuse(OUT_OF_RANGE)", "0")
        .brokenBy("public int " + method + "(", "refuse(OUT_OF_RANGE)", "NONE");
  }

  private static void addNextDue(List<Sentence> all) {
    all.add(ChangeSentences.trains(9, "nextDue", StrikingWork::nextDue));
    all.add(refuses(Sentence.of(9, "Returns the next due number; " + NO_TRAIN, due -> {
      int[][] rows = {
        {0, 1, 1}, {14, 1, 1}, {15, 1, 2}, {44, 1, 3}, {45, 1, 4}, {59, 1, 4}, {60, 2, 1},
        {659, 11, 4}, {660, 12, 1}, {719, 12, 4}, {720, 1, 1}, {1379, 11, 4}, {1380, 12, 1},
        {1424, 12, 3}, {1425, 12, 4}, {1439, 12, 4}
      };
      StrikingWork w = new StrikingWork();
      for (int[] row : rows) {
        w.setHands(row[0]);
        due.is("nextDue(0) at " + row[0], w.nextDue(0), row[1]);
        due.is("nextDue(1) at " + row[0], w.nextDue(1), row[2]);
      }
      w.setMechanism(0, 0);
      due.is("nextDue(0) without a mechanism", w.nextDue(0), 12);
      Works.outOfRange(due, "nextDue(2)", x -> x.nextDue(2));
    })
        .brokenBy("int dueAfter(", "minute + period()", "minute + period() - 1")
        .brokenBy("int dueAfter(", "minute + period()", "minute + period() + 1"), "nextDue"));
  }

  private static void addLag(List<Sentence> all) {
    all.add(ChangeSentences.trains(10, "lag", StrikingWork::lag));
    all.add(refuses(Sentence.of(10, "Returns the lag, 0 to 11; " + NO_TRAIN, due -> {
      for (int t = 0; t < 2; t++) {
        int last = Works.last(t);
        StrikingWork w = new StrikingWork();
        due.is("the least lag", w.lag(t), 0);
        w.setPosition(t, 2);
        due.is("the greatest lag, 1 is due", w.lag(t), last - 1);
        w.setPosition(t, last);
        due.is("one step over the last position", w.lag(t), 1);
        w.setHands(1439);
        due.is("the last position is due", w.lag(t), 0);
        w.setPosition(t, 1);
        due.is("the greatest lag, the last is due", w.lag(t), last - 1);
      }
      Works.outOfRange(due, "lag(-1)", x -> x.lag(-1));
    })
        .brokenBy("int lagAt(", "steps < 0", "steps <= 0")
        .brokenBy("int lagAt(", "steps < 0 ? steps + lastPosition() : steps", "Math.abs(steps)"),
        "lag"));
  }

  private static void addBlowsToCorrect(List<Sentence> all) {
    all.add(Sentence.of(11, "Returns the number of blows that tripping a train as often as its lag "
        + "says would strike, if its weight had enough units (its present weight does not "
        + "matter).", StepSentences::blowsOfTrips)
        .brokenBy("public int blowsToCorrect(", "position = chosen.positionAfter(position)",
            "position++")
        .brokenBy("public int blowsToCorrect(", "blows += position",
            "blows += Math.min(position, chosen.weight)")
        .brokenBy("public int blowsToCorrect(", "i < trips", "i < trips - 1")
        .brokenBy("public int blowsToCorrect(", "i < trips", "i <= trips")
        .brokenBy("public int blowsToCorrect(", "position = chosen.positionAfter(position)",
            "position = chosen.positionAfter(position); chosen.position = position"));
    all.add(ChangeSentences.trains(11, "blowsToCorrect", StrikingWork::blowsToCorrect));
    all.add(refuses(Sentence.of(11, "Returns the number of blows; 0 if the lag is 0; " + NO_TRAIN,
        due -> {
          for (int t = 0; t < 2; t++) {
            StrikingWork w = new StrikingWork();
            due.is("in step at 1", w.blowsToCorrect(t), 0);
            w.setHands(1439);
            w.setPosition(t, Works.last(t));
            due.is("in step at the last", w.blowsToCorrect(t), 0);
            w.setPosition(t, 2);
            w.setMechanism(t, 2);
            due.is("a rack", w.blowsToCorrect(t), 0);
            w.setMechanism(t, 0);
            due.is("no mechanism", w.blowsToCorrect(t), 0);
          }
          Works.outOfRange(due, "blowsToCorrect(2)", x -> x.blowsToCorrect(2));
        })
        .brokenBy("public int blowsToCorrect(", "i < trips", "i <= trips")
        .brokenBy("int lagAt(", "mechanism != COUNT_WHEEL", "mechanism == RACK"),
        "blowsToCorrect"));
  }

  private static void blowsOfTrips(Due due) {
    for (int t = 0; t < 2; t++) {
      int last = Works.last(t);
      // At 329 the least and the greatest due number are far, so that the trips go over both.
      for (int m : new int[] {0, 329, 1439}) {
        for (int p = 1; p <= last; p++) {
          StrikingWork full = new StrikingWork();
          full.setHands(m);
          full.setPosition(t, p);
          StrikingWork empty = Works.withUnits(0, 0);
          empty.setHands(m);
          empty.setPosition(t, p);
          int said = full.blowsToCorrect(t);
          String name = "blowsToCorrect(" + t + ") at " + m + ", position " + p;
          due.is(name + " without units", empty.blowsToCorrect(t), said);
          int blows = 0;
          for (int trips = full.lag(t); trips > 0; trips--) {
            blows += full.trip(t);
          }
          due.is(name, said, blows);
          due.is(name + ", lag after the trips", full.lag(t), 0);
        }
      }
    }
    StrikingWork w = new StrikingWork();
    w.setPosition(0, 2);
    due.is("the greatest lag of the hours", w.blowsToCorrect(0), 78 - 1);
    w.setPosition(1, 2);
    due.is("the greatest lag of the quarters", w.blowsToCorrect(1), 10 - 1);
    w.setPosition(0, 12);
    due.is("over the last position", w.blowsToCorrect(0), 12);
    due.is("the position stays", w.position(0), 12);
  }

  private static void addHandsToCorrect(List<Sentence> all) {
    all.add(Sentence.of(12, "Finds the hands that bring a train into step without tripping it: the "
        + "minute to set the hands to so that the lag of the train would be 0.", due -> {
          for (int t = 0; t < 2; t++) {
            for (int p = 1; p <= Works.last(t); p++) {
              StrikingWork w = new StrikingWork();
              w.setHands(1439);
              w.setPosition(t, p);
              int hands = w.handsToCorrect(t);
              due.is("minute() is left", w.minute(), 1439);
              due.is("position(" + t + ") is left", w.position(t), p);
              w.setHands(hands);
              due.is("lag(" + t + ") at " + hands, w.lag(t), 0);
            }
          }
        })
        .brokenBy("public int handsToCorrect(", "chosen.lastPosition() - lag", "lag")
        .brokenBy("public int handsToCorrect(", "releases * chosen.period()",
            "releases * chosen.period() - 1"));
    all.add(ChangeSentences.trains(12, "handsToCorrect", StrikingWork::handsToCorrect));
    all.add(refuses(Sentence.of(12, "Returns the first such minute, beginning with the shown "
        + "minute and going forward (after 1439 comes 0); this is the shown minute if the train "
        + "has no count wheel; " + NO_TRAIN, StepSentences::firstHands)
        .brokenBy("public int handsToCorrect(", "chosen.period()) % DAY", "chosen.period())")
        .brokenBy("public int handsToCorrect(", "return now.minute",
            "return chosen.lastReleaseUpTo(now.minute)")
        .brokenBy("public int handsToCorrect(", "chosen.lastReleaseUpTo(now.minute)", "now.minute")
        .brokenBy("public int handsToCorrect(", "chosen.lastPosition() - lag",
            "24 - lag")
        .brokenBy("int lagAt(", "mechanism != COUNT_WHEEL", "mechanism == RACK"),
        "handsToCorrect"));
  }

  /** The first minute from the shown one on whose next due number is the position. */
  private static int firstMinute(int train, int shown, int position) {
    int m = shown;
    while ((train == 0 ? m / 60 % 12 : m / 15 % 4) + 1 != position) {
      m = (m + 1) % 1440;
    }
    return m;
  }

  private static void firstHands(Due due) {
    for (int t = 0; t < 2; t++) {
      for (int m : new int[] {0, 1, 14, 15, 59, 60, 719, 720, 1379, 1380, 1425, 1438, 1439}) {
        StrikingWork w = new StrikingWork();
        w.setHands(m);
        for (int p = 1; p <= Works.last(t); p++) {
          w.setPosition(t, p);
          due.is("handsToCorrect(" + t + ") at " + m + ", position " + p, w.handsToCorrect(t),
              firstMinute(t, m, p));
        }
        w.setPosition(t, m % Works.last(t) + 1);
        w.setMechanism(t, 2);
        due.is("a rack at " + m, w.handsToCorrect(t), m);
        w.setMechanism(t, 0);
        due.is("no mechanism at " + m, w.handsToCorrect(t), m);
      }
    }
    Works.outOfRange(due, "handsToCorrect(2)", x -> x.handsToCorrect(2));
  }

  private static void addMinutesToMiss(List<Sentence> all) {
    all.add(Sentence.of(13, "Nothing is changed.", due -> {
      for (StrikingWork w : new StrikingWork[] {new StrikingWork(), Works.used(), Works.spent()}) {
        for (int t = 0; t < 2; t++) {
          int[] before = Works.values(w);
          long digest = w.digest();
          w.minutesToMiss(t);
          due.is("digest() after minutesToMiss(" + t + ")", w.digest(), digest);
          due.holds("the values are as before", Arrays.equals(before, Works.values(w)));
        }
      }
    })
        .brokenBy("public int minutesToMiss(", "int missedBefore", "save();\nint missedBefore")
        .brokenBy("public int minutesToMiss(", "return after",
            "now.trainOf(train).missed++; return after"));
    all.add(Sentence.of(13, "A train without a mechanism misses no release, and a release that the "
        + "silence prevents is not missed.", StepSentences::notMissed)
        .brokenBy("int releaseWith(", "mechanism == NO_MECHANISM", "mechanism == 7")
        .brokenBy("public int minutesToMiss(", " && !now.blocksAt(minute)", "")
        .brokenBy("public int minutesToMiss(", "!now.blocksAt(minute)", "!now.hushesAt(minute)")
        .brokenBy("public int minutesToMiss(", "!now.blocksAt(minute)",
            "!now.blocksAt((minute + 1) % DAY)"));
    all.add(ChangeSentences.trains(13, "minutesToMiss", StrikingWork::minutesToMiss));
    all.add(Sentence.of(13, "Returns the number of minutes, at most 20000, after which the train "
        + "misses a release for the first time when the clock runs from now on",
        StepSentences::firstMiss)
        .brokenBy("StrikingWork {", "FORESIGHT = 20000", "FORESIGHT = 19999")
        .brokenBy("public int minutesToMiss(", "after <= FORESIGHT", "after < FORESIGHT")
        .brokenBy("public int minutesToMiss(", "return after", "return after - 1")
        .brokenBy("public int minutesToMiss(", "(now.minute + after) % DAY", "now.minute + after"));
    all.add(refuses(Sentence.of(13, "NONE if it misses none in 20000 minutes; " + NO_TRAIN, due -> {
      due.is("a miss at 20001", missOnDay14(1434).minutesToMiss(1), -1);
      due.is("a full weight, released once a day", onceADay().minutesToMiss(1), -1);
      StrikingWork w = onceADay();
      w.minutesToMiss(0);
      w.minutesToMiss(1);
      due.is("NONE is no error", w.errorCount(-2) + w.errorCount(-3) + w.errorCount(-4), 0);
      Works.outOfRange(due, "minutesToMiss(2)", x -> x.minutesToMiss(2));
    })
        .brokenBy("StrikingWork {", "FORESIGHT = 20000", "FORESIGHT = 20001")
        .brokenBy("return after;", "return NONE", "return refuse(NOT_POSSIBLE)")
        .brokenBy("return after;", "return NONE", "return FORESIGHT"), "minutesToMiss"));
  }

  /** All releases but those of midnight are blocked. */
  private static StrikingWork onceADay() {
    StrikingWork w = new StrikingWork();
    w.setSilence(1, 1, 0);
    return w;
  }

  /** A quarter wheel that is released at 1275 alone, and has 31 units: 13 strikes, then a miss. */
  private static StrikingWork missOnDay14(int hands) {
    StrikingWork w = Works.withUnits(0, 31);
    w.setSilence(1, 1276, 1275);
    w.setHands(hands);
    return w;
  }

  private static void notMissed(Due due) {
    for (int t = 0; t < 2; t++) {
      StrikingWork w = Works.withUnits(0, 0);
      w.setMechanism(t, 0);
      due.is("no mechanism", w.minutesToMiss(t), -1);
      for (int m = 1; m <= 2; m++) {
        w.setMechanism(t, m);
        w.setSilence(0, 1, 0);
        due.is("no silence", w.minutesToMiss(t), t == 0 ? 60 : 15);
        w.setSilence(2, 1, 0);
        due.is("lifted hammers prevent no release", w.minutesToMiss(t), t == 0 ? 60 : 15);
        w.setSilence(1, 1, 0);
        due.is("blocked but at midnight", w.minutesToMiss(t), 1440);
        w.setSilence(1, 0, 1439);
        due.is("blocked throughout", w.minutesToMiss(t), -1);
        w.setSilence(1, 60, 120);
        w.setHands(59);
        due.is("blocked to the end of the silence", w.minutesToMiss(t), 61);
        w.setHands(0);
        w.setSilence(1, 0, 60);
        due.is("the end is not blocked", w.minutesToMiss(t), 60);
      }
    }
  }

  private static void firstMiss(Due due) {
    for (int t = 0; t < 2; t++) {
      StrikingWork w = Works.withUnits(0, 0);
      int period = t == 0 ? 60 : 15;
      due.is("at a release, the next one", w.minutesToMiss(t), period);
      w.setHands(1);
      due.is("a minute later", w.minutesToMiss(t), period - 1);
      w.setHands(1439);
      due.is("over midnight", w.minutesToMiss(t), 1);
    }
    StrikingWork one = Works.withUnits(1, 1);
    due.is("one unit of the hours", one.minutesToMiss(0), 120);
    due.is("one unit of the quarters", one.minutesToMiss(1), 30);
    one.setMechanism(0, 2);
    one.setHands(600);
    due.is("a rack misses eleven with one unit", one.minutesToMiss(0), 60);
    one.setHands(720);
    due.is("a rack strikes one, then misses two", one.minutesToMiss(0), 120);
    StrikingWork full = new StrikingWork();
    due.is("a full weight of the hours", full.minutesToMiss(0), 25 * 720 + 10 * 60);
    due.is("a full weight of the quarters", full.minutesToMiss(1), 200 * 60 + 15);
    // Silence and hands over many midnights.
    due.is("a miss at 19999", missOnDay14(1436).minutesToMiss(1), 19999);
    due.is("a miss at 20000", missOnDay14(1435).minutesToMiss(1), 20000);
    StrikingWork rack = Works.withUnits(0, 3);
    rack.setMechanism(1, 2);
    rack.setHands(1424);
    due.is("a rack over midnight", rack.minutesToMiss(1), 16);
  }
}
