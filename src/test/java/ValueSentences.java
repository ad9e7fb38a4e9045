import java.util.List;

/** The sentences of promises 14 to 22: what can be asked of a work, and of its record. */
final class ValueSentences {
  private static final String NO_TRAIN = "OUT_OF_RANGE if there is no such train.";
  private static final String NO_ENTRY =
      "OUT_OF_RANGE if index is negative (checked first); NONE if there is no such entry.";

  interface IndexCall {
    int on(StrikingWork w, int index);
  }

  private ValueSentences() {}

  static void addTo(List<Sentence> all) {
    all.add(Sentence.of(14, "Returns the shown minute, 0 to 1439.", ValueSentences::shownMinutes)
        .brokenBy("public int minute()", "return now.minute", "return now.minute + 1")
        .brokenBy("public int run(", "(start + minutes) % DAY", "(start + minutes) % (DAY + 1)")
        .brokenBy("boolean isMinute(", "minute < DAY", "minute < DAY - 1"));
    addOfTrains(all);
    addIsSilent(all);
    addEntries(all);
  }

  private static void shownMinutes(Due due) {
    StrikingWork w = new StrikingWork();
    due.is("minute() of a new work", w.minute(), 0);
    w.setHands(1438);
    w.run(1);
    due.is("the greatest by running", w.minute(), 1439);
    w.run(1);
    due.is("the least by running", w.minute(), 0);
    w.setHands(1439);
    due.is("the greatest by setting", w.minute(), 1439);
    w.run(1440);
    due.is("a day later", w.minute(), 1439);
    w.setHands(0);
    due.is("the least by setting", w.minute(), 0);
    w.setHands(1440);
    due.is("after a refused setting", w.minute(), 0);
  }

  // ---- 15 to 18

  private static void addOfTrains(List<Sentence> all) {
    all.add(ChangeSentences.trains(15, "position", StrikingWork::position));
    all.add(StepSentences.refuses(Sentence.of(15, "Returns the position; " + NO_TRAIN, due -> {
      for (int t = 0; t < 2; t++) {
        StrikingWork w = new StrikingWork();
        for (int i = 0; i <= Works.last(t); i++) {
          due.is("position(" + t + ")", w.position(t), i % Works.last(t) + 1);
          w.trip(t);
        }
        due.is("the other position", w.position(1 - t), 1);
      }
      Works.outOfRange(due, "position(2)", x -> x.position(2));
    })
        .brokenBy("int positionAfter(", "? 1", "? 0"), "position"));
    all.add(ChangeSentences.trains(16, "weight", StrikingWork::weight));
    all.add(StepSentences.refuses(Sentence.of(16, "Returns the number of units; " + NO_TRAIN,
        ValueSentences::unitsOfWeights)
        .brokenBy("public int weight(", "now.trainOf(train).weight", "now.hours.weight")
        .brokenBy("public int weight(", "now.trainOf(train).weight", "now.quarters.weight"),
        "weight"));
    all.add(ChangeSentences.trains(17, "sounded", StrikingWork::sounded));
    all.add(StepSentences.refuses(Sentence.of(17, "Returns the number of blows; " + NO_TRAIN,
        ValueSentences::blowsSounded)
        .brokenBy("public int sounded(", "now.trainOf(train).sounded", "now.hours.sounded")
        .brokenBy("public int sounded(", "now.trainOf(train).sounded", "now.quarters.sounded")
        .brokenBy("private int release(", "if (lifted) {", "if (lifted) { train.sounded++;"),
        "sounded"));
    all.add(ChangeSentences.trains(18, "missed", StrikingWork::missed));
    all.add(StepSentences.refuses(Sentence.of(18, "Returns the number of missed releases; "
        + NO_TRAIN, ValueSentences::releasesMissed)
        .brokenBy("public int missed(", "now.trainOf(train).missed", "now.hours.missed")
        .brokenBy("public int missed(", "now.trainOf(train).missed", "now.quarters.missed")
        .brokenBy("int releaseWith(", "missed++", "missed = 1"), "missed"));
  }

  private static void unitsOfWeights(Due due) {
    StrikingWork full = new StrikingWork();
    StrikingWork light = Works.withUnits(0, 1);
    due.is("the greatest weight(0)", full.weight(0), 2000);
    due.is("the greatest weight(1)", full.weight(1), 2000);
    due.is("the least weight(0)", light.weight(0), 0);
    due.is("weight(1) of one unit", light.weight(1), 1);
    light.trip(1);
    due.is("the least weight(1)", light.weight(1), 0);
    light.wind(0, 2000);
    due.is("weight(0) wound up again", light.weight(0), 2000);
    Works.outOfRange(due, "weight(-1)", x -> x.weight(-1));
  }

  private static void blowsSounded(Due due) {
    StrikingWork w = new StrikingWork();
    due.is("sounded(0) at first", w.sounded(0), 0);
    due.is("sounded(1) at first", w.sounded(1), 0);
    w.run(14);
    due.is("sounded(1) before the first quarter", w.sounded(1), 0);
    w.run(1);
    due.is("sounded(1) at the first quarter", w.sounded(1), 1);
    due.is("sounded(0) is left", w.sounded(0), 0);
    w.run(45);
    due.is("sounded(0) at the first hour", w.sounded(0), 1);
    due.is("sounded(1) at the first hour", w.sounded(1), 10);
    w.setSilence(2, 0, 1439);
    w.run(60);
    due.is("sounded(0) with lifted hammers", w.sounded(0), 1);
    due.is("sounded(1) with lifted hammers", w.sounded(1), 10);
    w.setPosition(0, 12);
    w.trip(0);
    due.is("sounded(0) after a trip of 12", w.sounded(0), 13);
    Works.outOfRange(due, "sounded(2)", x -> x.sounded(2));
  }

  private static void releasesMissed(Due due) {
    StrikingWork w = new StrikingWork();
    due.is("missed(0) at first", w.missed(0), 0);
    due.is("missed(1) at first", w.missed(1), 0);
    StrikingWork light = Works.withUnits(0, 1);
    int hours = light.missed(0);
    int quarters = light.missed(1);
    light.run(59);
    due.is("missed(0) before the hour", light.missed(0), hours);
    due.is("missed(1) after a strike and two misses", light.missed(1), quarters + 2);
    light.run(1);
    due.is("missed(0) at the hour", light.missed(0), hours + 1);
    due.is("missed(1) at the hour", light.missed(1), quarters + 3);
    light.trip(0);
    due.is("missed(0) after a trip", light.missed(0), hours + 1);
    light.setMechanism(0, 0);
    light.run(60);
    due.is("missed(0) without a mechanism", light.missed(0), hours + 1);
    due.is("missed(1) goes on", light.missed(1), quarters + 7);
    Works.outOfRange(due, "missed(2)", x -> x.missed(2));
  }

  // ---- 19

  private static void addIsSilent(List<Sentence> all) {
    all.add(Sentence.of(19, "- `minute`: 0 to 1439", due -> {
      for (int m : new int[] {0, 1439}) {
        Works.taken(due, "isSilent(" + m + ")", new StrikingWork(), w -> w.isSilent(m));
      }
      for (int m : Works.NO_MINUTES) {
        Works.outOfRange(due, "isSilent(" + m + ")", w -> w.isSilent(m));
      }
    })
        .brokenBy("public int isSilent(", "!isMinute(minute)", "minute < 0")
        .brokenBy("public int isSilent(", "!isMinute(minute)", "minute > 1439")
        .brokenBy("public int isSilent(", "!isMinute(minute)", "!isMinute(minute - 1)")
        .brokenBy("public int isSilent(", "!isMinute(minute)", "!isMinute(minute + 1)"));
    all.add(StepSentences.refuses(Sentence.of(19, "Returns 1 if it is silent, 0 if it is not; "
        + "OUT_OF_RANGE if minute is out of range.", due -> {
          StrikingWork w = new StrikingWork();
          w.setSilence(1, 1439, 1);
          due.is("isSilent(1438)", w.isSilent(1438), 0);
          due.is("isSilent(1439)", w.isSilent(1439), 1);
          due.is("isSilent(0)", w.isSilent(0), 1);
          due.is("isSilent(1)", w.isSilent(1), 0);
          w.setSilence(2, 0, 1439);
          due.is("isSilent(0)", w.isSilent(0), 1);
          due.is("isSilent(1438)", w.isSilent(1438), 1);
          due.is("isSilent(1439)", w.isSilent(1439), 0);
          w.setSilence(0, 0, 1439);
          due.is("isSilent(0) in mode 0", w.isSilent(0), 0);
          Works.outOfRange(due, "isSilent(1440)", x -> x.isSilent(1440));
        })
        .brokenBy("public int isSilent(", "? 1 : 0", "? 0 : 1")
        .brokenBy("public int isSilent(", "now.hushesAt", "now.blocksAt"), "isSilent"));
  }

  // ---- 20 to 22

  private static void addEntries(List<Sentence> all) {
    int[] minutes = {90, 75, 60, 60, 45, 30};
    int[] trains = {1, 1, 0, 1, 1, 1};
    int[] blows = {2, -1, 1, 4, 3, 2};
    all.add(index(20, "strikeMinute", StrikingWork::strikeMinute, minutes));
    all.add(entry(20, "Returns the shown minute when it struck; " + NO_ENTRY, "strikeMinute",
        StrikingWork::strikeMinute, -1)
        .brokenBy("public int strikeMinute(", "index < now.strikes.count", "index < RECORD_SIZE"));
    all.add(index(21, "strikeTrain", StrikingWork::strikeTrain, trains));
    all.add(entry(21, "Returns 0 or 1; " + NO_ENTRY, "strikeTrain", StrikingWork::strikeTrain, -1)
        .brokenBy("public int strikeTrain(", "index < now.strikes.count", "index < RECORD_SIZE"));
    all.add(index(22, "strikeBlows", StrikingWork::strikeBlows, blows));
    all.add(Sentence.of(22, "Returns the number of blows, negative if they did not sound (the "
        + "hammers were lifted)", ValueSentences::negativeBlows)
        .brokenBy("private int release(", "lifted ? -blows : blows", "blows")
        .brokenBy("public int strikeBlows(", "now.strikes.blows[index] : 0",
            "(now.strikes.blows[index] == -2 ? refuse(-2) : now.strikes.blows[index]) : 0")
        .brokenBy("private int release(", "lifted ? -blows : blows", "lifted ? 0 : blows"));
    all.add(entry(22, "OUT_OF_RANGE if index is negative (checked first); 0 if there is no such "
        + "entry.", "strikeBlows", StrikingWork::strikeBlows, 0));
  }

  /** Seven strikes, of which the first is forgotten: quarters to 90, the hour at 60. */
  private static StrikingWork seven() {
    StrikingWork w = new StrikingWork();
    w.setSilence(2, 70, 80);
    w.run(90);
    return w;
  }

  private static Sentence index(int promise, String method, IndexCall call, int[] want) {
    String row = want[0] == 90 ? "minutes" : want[0] == 1 ? "trains" : "blows";
    return Sentence.of(promise, "- `index`: index of the entry, 0 for the latest strike", due -> {
      StrikingWork w = seven();
      for (int i = 0; i < 6; i++) {
        due.is(method + "(" + i + ")", call.on(w, i), want[i]);
      }
      StrikingWork two = new StrikingWork();
      two.setHands(17);
      two.trip(1);
      two.trip(0);
      int[] latest = {17, 0, 1};
      due.is(method + "(0) of two trips", call.on(two, 0), latest[promise - 20]);
    })
        .brokenBy("public int " + method + "(", row + "[index]",
            row + "[now.strikes.count - 1 - index]")
        .brokenBy("void put(", row + "[i] = " + row + "[i - 1];", "");
  }

  /** No entry at an index: the empty record, one that fills, the full one; then the errors. */
  private static Sentence entry(
      int promise, String words, String method, IndexCall call, int none) {
    return Sentence.of(promise, words, due -> {
      StrikingWork w = new StrikingWork();
      w.setHands(17);
      for (int strikes = 0; strikes <= 8; strikes++) {
        int entries = Math.min(strikes, 6);
        String name = " after " + strikes + " strikes";
        for (int i = 0; i < entries; i++) {
          int[] entry = {17, 0, strikes - i};
          due.is(method + "(" + i + ")" + name, call.on(w, i), entry[promise - 20]);
        }
        due.is(method + "(" + entries + ")" + name, call.on(w, entries), none);
        due.is(method + "(7)" + name, call.on(w, 7), none);
        due.is(method + "(greatest)" + name, call.on(w, Works.GREATEST), none);
        w.trip(0);
      }
      due.is("no entry is no error", w.errorCount(-2) + w.errorCount(-3) + w.errorCount(-4), 0);
      for (int i : new int[] {-1, Works.LEAST}) {
        Works.outOfRange(due, method + "(" + i + ")", x -> call.on(x, i));
        Works.refused(due, method + "(" + i + ") of a full record", seven(), -2,
            x -> call.on(x, i));
      }
    })
        .brokenBy("public int " + method + "(", "index < now.strikes.count",
            "index < now.strikes.count - 1")
        .brokenBy("public int " + method + "(", none == 0 ? ": 0;" : ": NONE;",
            none == 0 ? ": NONE;" : ": 0;")
        .brokenBy("public int " + method + "(", none == 0 ? ": 0;" : ": NONE;",
            ": refuse(OUT_OF_RANGE);")
        .brokenBy("public int " + method + "(", "refuse(OUT_OF_RANGE)", "NONE")
        .brokenBy("public int " + method + "(", "refuse(OUT_OF_RANGE)", "OUT_OF_RANGE")
        .brokenBy("public int " + method + "(", "if (index < 0)",
            "if (now.strikes.count == 0) { return " + none + "; }\nif (index < 0)");
  }

  private static void negativeBlows(Due due) {
    StrikingWork w = new StrikingWork();
    w.setMechanism(0, 2);
    w.setSilence(2, 720, 721);
    Works.reach(w, 720);
    due.is("12 lifted blows", w.strikeBlows(0), -12);
    due.is("1 lifted blow", w.strikeBlows(1), -1);
    Works.reach(w, 720);
    due.is("2 lifted blows, which are no error", w.strikeBlows(1), -2);
    Works.reach(w, 720);
    due.is("3 lifted blows, which are no error", w.strikeBlows(1), -3);
    Works.reach(w, 720);
    due.is("4 lifted blows, which are no error", w.strikeBlows(1), -4);
    due.is("no error", w.errorCount(-2) + w.errorCount(-3) + w.errorCount(-4), 0);
    w.trip(0);
    due.is("a trip sounds in silence", w.strikeBlows(0), 1);
    Works.reach(w, 0);
    due.is("12 blows that sound", w.strikeBlows(0), 12);
  }
}
