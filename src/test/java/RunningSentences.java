import java.util.List;

/** The description's sentences on silence, one minute of running, the record and being in step. */
final class RunningSentences {
  private static final String DESCRIPTION = "Description";
  private static final String LESS = "at >= silenceBegin && at < silenceEnd";
  private static final String GREATER = "(at >= silenceBegin || at < silenceEnd)";

  // Silences in which minute 60 is silent, and behind them silences in which it is not.
  private static final int[][] AROUND_ONE = {
    {60, 61}, {0, 61}, {60, 0}, {1439, 61}, {61, 0}, {61, 60}, {59, 60}, {0, 60}
  };
  private static final int SILENT_AT_ONE = 4;

  private RunningSentences() {}

  static void addTo(List<Sentence> all) {
    addSilence(all);
    addMinute(all);
    addRecord(all);
    addInStep(all);
  }

  private static void addSilence(List<Sentence> all) {
    all.add(Sentence.in(DESCRIPTION, "4 and 6", "The silence has a mode: 0 = off, 1 = trains "
        + "blocked, 2 = hammers lifted.", RunningSentences::modes)
        .brokenBy("public int setSilence(", "mode <= HAMMERS_LIFTED", "mode <= 3")
        .brokenBy("public int setSilence(", "mode >= SILENCE_OFF", "mode >= -1")
        .brokenBy("boolean blocksAt(", "silenceMode == TRAINS_BLOCKED", "silenceMode == 2"));
    all.add(Sentence.in(DESCRIPTION, "4", "It has a beginning and an end, both minutes of the "
        + "day.", RunningSentences::beginningAndEnd)
        .brokenBy("public int setSilence(", "!isMinute(begin)", "begin < 0")
        .brokenBy("public int setSilence(", "!isMinute(begin)", "begin > 1439")
        .brokenBy("public int setSilence(", "!isMinute(end)", "end < 0")
        .brokenBy("public int setSilence(", "!isMinute(end)", "end > 1439")
        .brokenBy("boolean isMinute(", "minute < DAY", "minute < DAY - 1"));
    all.add(Sentence.in(DESCRIPTION, "19", "A minute m is silent if the mode is not 0",
        RunningSentences::silentModes)
        .brokenBy("boolean hushesAt(", "silenceMode == SILENCE_OFF", "silenceMode == 3")
        .brokenBy("boolean hushesAt(", "silenceMode == SILENCE_OFF", "silenceMode < 2")
        .brokenBy("boolean hushesAt(", "silenceMode == SILENCE_OFF", "silenceMode != 1"));
    all.add(Sentence.in(DESCRIPTION, "19", "the beginning is less than the end and m is at least "
        + "the beginning and less than the end", RunningSentences::beginningLess)
        .brokenBy("boolean hushesAt(", LESS, "at > silenceBegin && at < silenceEnd")
        .brokenBy("boolean hushesAt(", LESS, "at >= silenceBegin && at <= silenceEnd")
        .brokenBy("boolean hushesAt(", LESS, "at >= silenceBegin || at < silenceEnd"));
    all.add(Sentence.in(DESCRIPTION, "19", "the beginning is greater than the end and m is at "
        + "least the beginning or less than the end", RunningSentences::beginningGreater)
        .brokenBy("boolean hushesAt(", GREATER, "(at > silenceBegin || at < silenceEnd)")
        .brokenBy("boolean hushesAt(", GREATER, "(at >= silenceBegin || at <= silenceEnd)")
        .brokenBy("boolean hushesAt(", GREATER, "(at >= silenceBegin && at < silenceEnd)"));
    all.add(Sentence.in(DESCRIPTION, "6 and 19",
        "If the beginning equals the end, no minute is silent.", RunningSentences::beginningEqual)
        .brokenBy("boolean hushesAt(", "silenceBegin > silenceEnd", "silenceBegin >= silenceEnd")
        .brokenBy("boolean hushesAt(", "silenceMode == SILENCE_OFF)",
            "silenceBegin == silenceEnd) { return at == silenceBegin; }\n"
            + "if (silenceMode == SILENCE_OFF)"));
  }

  private static void addMinute(List<Sentence> all) {
    all.add(Sentence.in(DESCRIPTION, "6 and 14",
        "The shown minute increases by 1 (after 1439 comes 0).", RunningSentences::nextMinute)
        .brokenBy("public int run(", "now.minute = (start + minutes) % DAY",
            "now.minute = start + minutes")
        .brokenBy("public int run(", "now.minute = (start + minutes) % DAY",
            "now.minute = (start + minutes) % 1439")
        .brokenBy("public int run(", "now.minute = (start + after) % DAY",
            "now.minute = start + after"));
    all.add(Sentence.in(DESCRIPTION, "6", "If the new minute is divisible by 15, the quarter train "
        + "is released with the quarter number of the new minute.", RunningSentences::quarters)
        .brokenBy("public int run(", "after <= minutes", "after < minutes")
        .brokenBy("public int run(", "after <= minutes", "after <= minutes + 1")
        .brokenBy("public int run(", "int after = QUARTER - start % QUARTER",
            "int after = (QUARTER - start % QUARTER) % QUARTER")
        .brokenBy("private int strikeQuarter(", "now.quarters.dueAt(now.minute)",
            "now.quarters.dueAt(now.minute + 1439)"));
    all.add(Sentence.in(DESCRIPTION, "6", "Then, if the new minute is divisible by 60, the hour "
        + "train is released with the hour number of the new minute.", RunningSentences::hours)
        .brokenBy("private int strikeQuarter(", "now.hours.isReleasedAt(now.minute)",
            "now.minute % 30 == 0")
        .brokenBy("private int strikeQuarter(", "now.hours.isReleasedAt(now.minute)",
            "now.minute % 60 == 0 && now.minute > 0")
        .brokenBy("private int strikeQuarter(", "now.hours.dueAt(now.minute)",
            "now.hours.dueAfter(now.minute)")
        .brokenBy("private int strikeQuarter(", "int heard = release(",
            "int heard = now.hours.isReleasedAt(now.minute)\n"
            + "? release(now.hours, now.hours.dueAt(now.minute), lifted) : 0;\nheard += release("));
    all.add(Sentence.in(DESCRIPTION, "6",
        "If the new minute is silent in mode 1, neither train is released.",
        RunningSentences::blockedMinutes)
        .brokenBy("private int strikeQuarter(", "now.blocksAt(now.minute)",
            "now.blocksAt((now.minute + 1439) % DAY)")
        .brokenBy("private int strikeQuarter(", "now.blocksAt(now.minute)",
            "now.blocksAt((now.minute + 1) % DAY)")
        .brokenBy("private int strikeQuarter(", "return 0;",
            "{ now.quarters.missed++; return 0; }"));
    all.add(Sentence.in(DESCRIPTION, "6",
        "If it is silent in mode 2, the hammers are lifted; otherwise they are not.",
        RunningSentences::liftedMinutes)
        .brokenBy("private int strikeQuarter(", "now.hushesAt(now.minute)",
            "now.hushesAt((now.minute + 1439) % DAY)")
        .brokenBy("private int strikeQuarter(", "now.hushesAt(now.minute)",
            "now.hushesAt((now.minute + 1) % DAY)")
        .brokenBy("private int strikeQuarter(", "now.hushesAt(now.minute)",
            "now.silenceMode == HAMMERS_LIFTED"));
  }

  private static void addRecord(List<Sentence> all) {
    all.add(Sentence.in(DESCRIPTION, "20 to 22", "The work remembers the last 6 strikes (releases "
        + "in which the train ran, whether the blows sounded or not).",
        RunningSentences::lastStrikes)
        .brokenBy("StrikingWork {", "RECORD_SIZE = 6", "RECORD_SIZE = 5")
        .brokenBy("StrikingWork {", "RECORD_SIZE = 6", "RECORD_SIZE = 7")
        .brokenBy("void put(", "for (", "if (count < RECORD_SIZE) for (")
        .brokenBy("void put(", "for (", "if (count == RECORD_SIZE) { return; }\nfor (")
        .brokenBy("private int release(", "now.strikes.put(", "if (!lifted) now.strikes.put(")
        .brokenBy("if (blows == 0)", "return 0;",
            "{ now.strikes.put(now.minute, train.number, 0); return 0; }"));
    all.add(Sentence.in(DESCRIPTION, "20 to 22", "Each entry has the shown minute, the train, the "
        + "number of blows and whether they sounded.", RunningSentences::entries)
        .brokenBy("private int release(", "now.strikes.put(now.minute",
            "now.strikes.put(now.minute == 0 ? DAY : now.minute")
        .brokenBy("private int release(", "lifted ? -blows : blows", "blows")
        .brokenBy("private int release(", "train.number,", "0,"));
  }

  private static void addInStep(List<Sentence> all) {
    all.add(Sentence.in(DESCRIPTION, "9", "The next due number of a train is the due number with "
        + "which running the clock would release it next, the silence aside (for the hour train "
        + "at the next minute that is divisible by 60 and comes after the shown minute, for the "
        + "quarter train at the next minute that is divisible by 15).",
        RunningSentences::nextDueNumbers)
        .brokenBy("int dueAfter(", "minute + period()", "minute + period() - 1")
        .brokenBy("int dueAfter(", "minute + period()", "minute + period() + 1")
        .brokenBy("public int nextDue(", "now.trainOf(train).dueAfter(now.minute)",
            "now.trainOf(train).dueAfter(now.hushesAt(now.minute) ? 0 : now.minute)"));
    all.add(Sentence.in(DESCRIPTION, "10", "A count wheel is in step if its position equals the "
        + "next due number.", RunningSentences::inStep)
        .brokenBy("int lagAt(", "steps < 0", "steps <= 0")
        .brokenBy("int lagAt(", "dueAfter(minute) - position", "dueAt(minute) - position"));
    all.add(Sentence.in(DESCRIPTION, "10", "The lag of a count wheel is the least number of times "
        + "that its position must be advanced to be in step.", RunningSentences::leastAdvances)
        .brokenBy("int lagAt(", "steps < 0 ? steps + lastPosition() : steps", "Math.abs(steps)")
        .brokenBy("int lagAt(", "steps < 0 ? steps + lastPosition()", "steps < 0 ? steps + 12")
        .brokenBy("int lagAt(", "steps < 0 ? steps + lastPosition()", "steps < 0 ? steps + 4")
        .brokenBy("int lagAt(", "steps < 0", "steps <= 0"));
    all.add(Sentence.in(DESCRIPTION, "10", "The lag of a train without a count wheel is 0.",
        RunningSentences::noLag)
        .brokenBy("int lagAt(", "mechanism != COUNT_WHEEL", "mechanism == RACK")
        .brokenBy("int lagAt(", "mechanism != COUNT_WHEEL", "mechanism == NO_MECHANISM"));
  }

  // ---- silence

  private static void modes(Due due) {
    int[] heard = {1, 0, 0};
    int[] recorded = {1, 0, -1};
    for (int mode = 0; mode <= 2; mode++) {
      StrikingWork w = new StrikingWork();
      w.setSilence(mode, 15, 16);
      due.is("run(15) in mode " + mode, w.run(15), heard[mode]);
      due.is("strikeBlows(0) in mode " + mode, w.strikeBlows(0), recorded[mode]);
      due.is("the mode before", w.setSilence(0, 0, 0), mode);
    }
    for (int mode : new int[] {-1, 3, Works.LEAST, Works.GREATEST}) {
      Works.outOfRange(due, "setSilence(" + mode + ", 0, 0)", x -> x.setSilence(mode, 0, 0));
    }
  }

  private static void beginningAndEnd(Due due) {
    int[] edges = {0, 1439};
    for (int begin : edges) {
      for (int end : edges) {
        String name = "setSilence(1, " + begin + ", " + end + ")";
        StrikingWork w = new StrikingWork();
        Works.taken(due, name, w, x -> x.setSilence(1, begin, end));
        due.is(name + ", then isSilent(0)", w.isSilent(0), begin < end ? 1 : 0);
        due.is(name + ", then isSilent(1439)", w.isSilent(1439), begin > end ? 1 : 0);
      }
    }
    for (int m : Works.NO_MINUTES) {
      Works.outOfRange(due, "setSilence(1, " + m + ", 5)", x -> x.setSilence(1, m, 5));
      Works.outOfRange(due, "setSilence(1, 5, " + m + ")", x -> x.setSilence(1, 5, m));
    }
  }

  private static void silentModes(Due due) {
    for (int mode = 0; mode <= 2; mode++) {
      Works.silentMinutes(due, mode, 60, 200);
      Works.silentMinutes(due, mode, 1320, 420);
    }
  }

  private static void beginningLess(Due due) {
    for (int mode = 1; mode <= 2; mode++) {
      Works.silentMinutes(due, mode, 0, 1);
      Works.silentMinutes(due, mode, 0, 1439);
      Works.silentMinutes(due, mode, 1438, 1439);
      Works.silentMinutes(due, mode, 719, 721);
    }
  }

  private static void beginningGreater(Due due) {
    for (int mode = 1; mode <= 2; mode++) {
      Works.silentMinutes(due, mode, 1, 0);
      Works.silentMinutes(due, mode, 1439, 0);
      Works.silentMinutes(due, mode, 1439, 1438);
      Works.silentMinutes(due, mode, 721, 719);
    }
  }

  private static void beginningEqual(Due due) {
    for (int mode = 1; mode <= 2; mode++) {
      for (int m : new int[] {0, 1, 500, 1438, 1439}) {
        Works.silentMinutes(due, mode, m, m);
      }
      StrikingWork w = new StrikingWork();
      w.setSilence(mode, 15, 15);
      due.is("run(15)", w.run(15), 1);
    }
  }

  // ---- one minute of running

  private static void nextMinute(Due due) {
    StrikingWork w = new StrikingWork();
    for (int m : new int[] {0, 1, 14, 59, 719, 1437, 1438}) {
      w.setHands(m);
      w.run(1);
      due.is("minute() a minute after " + m, w.minute(), m + 1);
    }
    w.setHands(1439);
    w.run(1);
    due.is("minute() a minute after 1439", w.minute(), 0);
    due.is("strikeMinute(0) at midnight", w.strikeMinute(0), 0);
    w.run(1439);
    due.is("minute() after the rest of the day", w.minute(), 1439);
    w.run(1440);
    due.is("minute() a day after 1439", w.minute(), 1439);
    w.setHands(1430);
    w.run(20);
    due.is("minute() over midnight", w.minute(), 10);
    due.is("strikeMinute(0) over midnight", w.strikeMinute(0), 0);
  }

  private static void quarters(Due due) {
    int[] numbers = {4, 1, 2, 3};
    StrikingWork w = null;
    for (int m = 0; m < 1440; m++) {
      if (m % 180 == 0) {
        w = Works.alone(1, 2);
      }
      due.is("a quarter rack reaches " + m, Works.reach(w, m),
          m % 15 == 0 ? numbers[m / 15 % 4] : 0);
    }
    StrikingWork wheel = new StrikingWork();
    wheel.run(15);
    due.is("run(0) at a quarter", wheel.run(0), 0);
    due.is("run(14) behind a quarter", wheel.run(14), 0);
    due.is("run(1) to the next", wheel.run(1), 2);
  }

  private static void hours(Due due) {
    StrikingWork w = null;
    for (int m = 0; m < 1440; m++) {
      if (m % 180 == 0) {
        w = Works.alone(0, 2);
      }
      int number = m / 60 % 12 == 0 ? 12 : m / 60 % 12;
      due.is("an hour rack reaches " + m, Works.reach(w, m), m % 60 == 0 ? number : 0);
    }
    StrikingWork both = new StrikingWork();
    both.setMechanism(0, 2);
    due.is("both trains at midnight", Works.reach(both, 0), 1 + 12);
    Works.strike(due, "the hour comes last", both, 0, 0, 0, 12);
    Works.strike(due, "the quarter comes first", both, 1, 0, 1, 1);
  }

  /** Both trains after the hands have reached minute 60 in a silence. */
  private static StrikingWork atOne(int mode, int begin, int end) {
    StrikingWork w = new StrikingWork();
    w.setSilence(mode, begin, end);
    Works.reach(w, 60);
    return w;
  }

  private static void blockedMinutes(Due due) {
    for (int i = 0; i < AROUND_ONE.length; i++) {
      boolean blocks = i < SILENT_AT_ONE;
      String name = "silence from " + AROUND_ONE[i][0] + " to " + AROUND_ONE[i][1];
      StrikingWork w = atOne(1, AROUND_ONE[i][0], AROUND_ONE[i][1]);
      due.is(name + ": sounded(0)", w.sounded(0), blocks ? 0 : 1);
      due.is(name + ": sounded(1)", w.sounded(1), blocks ? 0 : 1);
      due.is(name + ": position(0)", w.position(0), blocks ? 1 : 2);
      due.is(name + ": position(1)", w.position(1), blocks ? 1 : 2);
      due.is(name + ": weights", w.weight(0) + w.weight(1), blocks ? 4000 : 3998);
      due.is(name + ": entries", Works.entries(w), blocks ? 0 : 2);
    }
    StrikingWork light = Works.withUnits(0, 0);
    light.setSilence(1, 60, 61);
    int missed = light.missed(0) + light.missed(1);
    Works.reach(light, 60);
    due.is("a blocked train misses nothing", light.missed(0) + light.missed(1), missed);
  }

  private static void liftedMinutes(Due due) {
    for (int i = 0; i < AROUND_ONE.length; i++) {
      boolean lifts = i < SILENT_AT_ONE;
      String name = "silence from " + AROUND_ONE[i][0] + " to " + AROUND_ONE[i][1];
      StrikingWork w = atOne(2, AROUND_ONE[i][0], AROUND_ONE[i][1]);
      due.is(name + ": sounded(0)", w.sounded(0), lifts ? 0 : 1);
      due.is(name + ": sounded(1)", w.sounded(1), lifts ? 0 : 1);
      due.is(name + ": positions", w.position(0) + w.position(1), 4);
      due.is(name + ": weights", w.weight(0) + w.weight(1), 3998);
      Works.strike(due, name, w, 0, 60, 0, lifts ? -1 : 1);
      Works.strike(due, name, w, 1, 60, 1, lifts ? -1 : 1);
    }
    StrikingWork light = Works.withUnits(0, 0);
    light.setSilence(2, 60, 61);
    int missed = light.missed(0) + light.missed(1);
    Works.reach(light, 60);
    due.is("a train misses with lifted hammers", light.missed(0) + light.missed(1), missed + 2);
  }

  // ---- record

  private static void lastStrikes(Due due) {
    for (int trips = 0; trips <= 14; trips++) {
      StrikingWork w = new StrikingWork();
      for (int i = 0; i < trips; i++) {
        w.trip(0);
      }
      int kept = Math.min(trips, 6);
      for (int i = 0; i < kept; i++) {
        Works.strike(due, "after " + trips + " trips", w, i, 0, 0, (trips - 1 - i) % 12 + 1);
      }
      Works.strike(due, "no more after " + trips + " trips", w, kept, -1, -1, 0);
    }
    StrikingWork lifted = new StrikingWork();
    lifted.setSilence(2, 15, 30);
    lifted.run(30);
    Works.strike(due, "blows that sounded", lifted, 0, 30, 1, 2);
    Works.strike(due, "blows that did not", lifted, 1, 15, 1, -1);
    StrikingWork light = Works.withUnits(0, 0);
    light.setHands(300);
    int latest = light.strikeMinute(0);
    light.run(60);
    due.is("a train that did not run is not recorded", light.strikeMinute(0), latest);
  }

  private static void entries(Due due) {
    StrikingWork w = new StrikingWork();
    w.setMechanism(0, 2);
    Works.reach(w, 0);
    Works.strike(due, "the hour of midnight", w, 0, 0, 0, 12);
    Works.strike(due, "the quarter of midnight", w, 1, 0, 1, 1);
    w.setSilence(2, 0, 1);
    Works.reach(w, 0);
    Works.strike(due, "the silent hour", w, 0, 0, 0, -12);
    Works.strike(due, "the silent quarter", w, 1, 0, 1, -2);
    w.setHands(1439);
    w.trip(1);
    Works.strike(due, "the last minute", w, 0, 1439, 1, 3);
  }

  // ---- in step

  private static void nextDueNumbers(Due due) {
    StrikingWork w = null;
    for (int m = 0; m < 1440; m++) {
      if (m % 120 == 0) {
        w = new StrikingWork();
        w.setSilence(m / 120 % 3, 0, 1439);
        w.setMechanism(0, m / 360 % 3);
      }
      w.setHands(m);
      due.is("nextDue(0) at " + m, w.nextDue(0), m / 60 % 12 + 1);
      due.is("nextDue(1) at " + m, w.nextDue(1), m / 15 % 4 + 1);
    }
  }

  private static void inStep(Due due) {
    for (int t = 0; t < 2; t++) {
      for (int m = 0; m < 720; m += t == 0 ? 60 : 15) {
        StrikingWork w = new StrikingWork();
        w.setHands(m);
        for (int p = 1; p <= Works.last(t); p++) {
          w.setPosition(t, p);
          due.holds("lag(" + t + ") at " + m + ", position " + p,
              (w.lag(t) == 0) == (p == w.nextDue(t)));
        }
      }
    }
  }

  private static void leastAdvances(Due due) {
    for (int t = 0; t < 2; t++) {
      int last = Works.last(t);
      for (int p = 1; p <= last; p++) {
        StrikingWork w = new StrikingWork();
        w.setPosition(t, p);
        int steps = p == 1 ? 0 : last + 1 - p;
        due.is("lag(" + t + ") at position " + p + ", 1 is due", w.lag(t), steps);
        w.setHands(1439);
        due.is("lag(" + t + ") at position " + p + ", the last is due", w.lag(t), last - p);
      }
    }
  }

  private static void noLag(Due due) {
    for (int t = 0; t < 2; t++) {
      for (int m = 0; m <= 2; m += 2) {
        StrikingWork w = new StrikingWork();
        w.setMechanism(t, m);
        for (int p = 1; p <= Works.last(t); p++) {
          w.setPosition(t, p);
          due.is("lag(" + t + ") of mechanism " + m, w.lag(t), 0);
        }
      }
    }
  }
}
