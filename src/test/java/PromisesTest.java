import java.util.function.ToIntFunction;

/** Each promise of the document by its number: ordinary inputs, edges, wrong inputs. */
public final class PromisesTest {
  private static final Due DUE = new Due();
  private static final int[] NO_TRAINS = Works.NO_TRAINS;
  private static final int[] NO_MINUTES = Works.NO_MINUTES;

  public static void main(String[] args) {
    p1NewObject();
    p2SetMechanism();
    p3SetPosition();
    p4SetSilence();
    p5Wind();
    p6Run();
    p6RunInSilence();
    p6RunWithoutWeight();
    p7SetHands();
    p8Trip();
    p8TripNotPossible();
    p9NextDue();
    p10Lag();
    p11BlowsToCorrect();
    p12HandsToCorrect();
    p13MinutesToMiss();
    p13MinutesToMissEdges();
    p14Minute();
    p15Position();
    p16Weight();
    p17Sounded();
    p18Missed();
    p19IsSilent();
    p20StrikeMinute();
    p21StrikeTrain();
    p22StrikeBlows();
    p23Undo();
    p23UndoOfEachMethod();
    p24ErrorCount();
    p25Digest();
    DUE.end("PromisesTest");
  }

  // ---- helpers

  private static void refused(
      String name, StrikingWork w, int code, ToIntFunction<StrikingWork> call) {
    Works.refused(DUE, name, w, code, call);
  }

  private static void outOfRange(String name, ToIntFunction<StrikingWork> call) {
    Works.outOfRange(DUE, name, call);
  }

  private static void strike(String name, StrikingWork w, int index, int... entry) {
    Works.strike(DUE, name, w, index, entry);
  }

  // ---- the promises

  private static void p1NewObject() {
    StrikingWork w = new StrikingWork();
    DUE.is("1 minute()", w.minute(), 0);
    for (int t = 0; t < 2; t++) {
      DUE.is("1 position", w.position(t), 1);
      DUE.is("1 weight", w.weight(t), 2000);
      DUE.is("1 sounded", w.sounded(t), 0);
      DUE.is("1 missed", w.missed(t), 0);
    }
    for (int m = 0; m < 1440; m++) {
      DUE.is("1 isSilent(" + m + ")", new StrikingWork().isSilent(m), 0);
    }
    DUE.is("1 strikeMinute(0)", w.strikeMinute(0), -1);
    for (int code = -4; code <= -2; code++) {
      DUE.is("1 errorCount", w.errorCount(code), 0);
    }
    DUE.is("1 mechanism of train 0", w.setMechanism(0, 1), 1);
    DUE.is("1 mechanism of train 1", w.setMechanism(1, 1), 1);
    DUE.is("1 silence mode", w.setSilence(0, 0, 0), 0);
    DUE.is("1 nothing saved", new StrikingWork().undo(), -4);
    StrikingWork other = new StrikingWork();
    other.run(1440);
    DUE.is("1 works share nothing: weight(0)", new StrikingWork().weight(0), 2000);
  }

  private static void p2SetMechanism() {
    StrikingWork w = new StrikingWork();
    w.setPosition(0, 7);
    w.run(60);
    DUE.is("2 setMechanism(0, 0)", w.setMechanism(0, 0), 1);
    DUE.is("2 setMechanism(0, 2)", w.setMechanism(0, 2), 0);
    DUE.is("2 setMechanism(0, 2) again", w.setMechanism(0, 2), 2);
    DUE.is("2 the other train", w.setMechanism(1, 1), 1);
    DUE.is("2 the position stays", w.position(0), 8);
    DUE.is("2 the weight stays", w.weight(0), 1993);
    DUE.is("2 a rack strikes the hour: run(60)", w.run(60), 12);
    DUE.is("2 a rack keeps the position", w.position(0), 8);
    w.setMechanism(0, 1);
    w.run(60);
    DUE.is("2 the count wheel goes on from it", w.strikeBlows(0), 8);
    w.setMechanism(1, 2);
    w.setPosition(1, 3);
    DUE.is("2 a quarter rack: run(15)", w.run(15), 1);
    DUE.is("2 a quarter rack keeps the position", w.position(1), 3);
    w.setMechanism(1, 0);
    DUE.is("2 no mechanism, no blows: run(15)", w.run(15), 0);
    DUE.is("2 no mechanism, no miss", w.missed(1), 0);
    for (int t : NO_TRAINS) {
      outOfRange("2 setMechanism(" + t + ", 1)", x -> x.setMechanism(t, 1));
    }
    for (int m : new int[] {-1, 3, Integer.MIN_VALUE, Integer.MAX_VALUE}) {
      outOfRange("2 setMechanism(0, " + m + ")", x -> x.setMechanism(0, m));
      outOfRange("2 setMechanism(1, " + m + ")", x -> x.setMechanism(1, m));
    }
  }

  private static void p3SetPosition() {
    for (int t = 0; t < 2; t++) {
      StrikingWork w = new StrikingWork();
      int last = t == 0 ? 12 : 4;
      int before = 1;
      for (int p = 1; p <= last; p++) {
        DUE.is("3 setPosition(" + t + ", " + p + ")", w.setPosition(t, p), before);
        DUE.is("3 position(" + t + ")", w.position(t), p);
        DUE.is("3 the other position", w.position(1 - t), 1);
        before = p;
      }
      DUE.is("3 trip at the last position", w.trip(t), last);
      DUE.is("3 after the last comes 1", w.position(t), 1);
      int train = t;
      for (int p : new int[] {0, -1, last + 1, Integer.MIN_VALUE, Integer.MAX_VALUE}) {
        outOfRange("3 setPosition(" + t + ", " + p + ")", x -> x.setPosition(train, p));
      }
    }
    for (int t : NO_TRAINS) {
      outOfRange("3 setPosition(" + t + ", 1)", x -> x.setPosition(t, 1));
    }
    StrikingWork w = new StrikingWork();
    w.setMechanism(0, 0);
    DUE.is("3 a position exists without a mechanism", w.setPosition(0, 9), 1);
    DUE.is("3 and is kept", w.setPosition(0, 9), 9);
  }

  private static void p4SetSilence() {
    StrikingWork w = new StrikingWork();
    DUE.is("4 setSilence(2, 0, 1439)", w.setSilence(2, 0, 1439), 0);
    DUE.is("4 setSilence(1, 1439, 0)", w.setSilence(1, 1439, 0), 2);
    DUE.is("4 isSilent(1439)", w.isSilent(1439), 1);
    DUE.is("4 isSilent(0)", w.isSilent(0), 0);
    DUE.is("4 setSilence(0, 5, 9)", w.setSilence(0, 5, 9), 1);
    DUE.is("4 setSilence(0, 0, 0)", w.setSilence(0, 0, 0), 0);
    for (int m : new int[] {-1, 3, Integer.MIN_VALUE, Integer.MAX_VALUE}) {
      outOfRange("4 setSilence(" + m + ", 0, 0)", x -> x.setSilence(m, 0, 0));
    }
    for (int m : NO_MINUTES) {
      outOfRange("4 setSilence(1, " + m + ", 0)", x -> x.setSilence(1, m, 0));
      outOfRange("4 setSilence(1, 0, " + m + ")", x -> x.setSilence(1, 0, m));
      outOfRange("4 setSilence(0, 0, " + m + ")", x -> x.setSilence(0, 0, m));
    }
  }

  private static void p5Wind() {
    StrikingWork w = new StrikingWork();
    DUE.is("5 wind a full weight", w.wind(0, 1), 0);
    w.run(1440);
    DUE.is("5 wind(0, 1)", w.wind(0, 1), 1);
    DUE.is("5 weight(0)", w.weight(0), 1845);
    DUE.is("5 the other weight", w.weight(1), 1760);
    DUE.is("5 wind(0, 155), just full", w.wind(0, 155), 155);
    DUE.is("5 weight(0) is full", w.weight(0), 2000);
    DUE.is("5 wind(1, 2000)", w.wind(1, 2000), 240);
    DUE.is("5 weight(1) is full", w.weight(1), 2000);
    w.setMechanism(1, 0);
    DUE.is("5 wind without a mechanism", w.wind(1, 7), 0);
    for (int t : NO_TRAINS) {
      outOfRange("5 wind(" + t + ", 1)", x -> x.wind(t, 1));
    }
    for (int u : new int[] {0, -1, 2001, Integer.MIN_VALUE, Integer.MAX_VALUE}) {
      outOfRange("5 wind(0, " + u + ")", x -> x.wind(0, u));
      outOfRange("5 wind(1, " + u + ")", x -> x.wind(1, u));
    }
  }

  private static void p6Run() {
    StrikingWork w = new StrikingWork();
    DUE.is("6 run(0)", w.run(0), 0);
    DUE.is("6 run(14)", w.run(14), 0);
    DUE.is("6 run(1)", w.run(1), 1);
    DUE.is("6 run(0) at a quarter releases nothing", w.run(0), 0);
    DUE.is("6 run(45)", w.run(45), 10);
    strike("6 the hour comes after the quarters", w, 0, 60, 0, 1);
    strike("6 the quarters come first", w, 1, 60, 1, 4);
    StrikingWork racks = new StrikingWork();
    racks.setMechanism(0, 2);
    racks.setMechanism(1, 2);
    racks.setHands(719);
    DUE.is("6 noon by racks", racks.run(1), 16);
    DUE.is("6 one in the afternoon by racks", racks.run(60), 11);
    racks.setHands(1439);
    DUE.is("6 midnight by racks", racks.run(1), 16);
    DUE.is("6 minute() after midnight", racks.minute(), 0);
    DUE.is("6 run(1440)", racks.run(1440), 396);
    DUE.is("6 minute() after a day", racks.minute(), 0);
    StrikingWork wheels = new StrikingWork();
    wheels.setHands(719);
    DUE.is("6 wheels strike their position", wheels.run(1), 2);
    for (int m : new int[] {-1, 1441, Integer.MIN_VALUE, Integer.MAX_VALUE}) {
      outOfRange("6 run(" + m + ")", x -> x.run(m));
    }
  }

  private static void p6RunInSilence() {
    StrikingWork blocked = new StrikingWork();
    blocked.setSilence(1, 15, 45);
    DUE.is("6 blocked: run(60)", blocked.run(60), 1 + 2 + 1);
    DUE.is("6 blocked: the wheel stood", blocked.position(1), 3);
    DUE.is("6 blocked: the weight stayed", blocked.weight(1), 1997);
    DUE.is("6 blocked: no miss", blocked.missed(1), 0);
    strike("6 blocked: first strike", blocked, 2, 45, 1, 1);
    strike("6 blocked: nothing before", blocked, 3, -1, -1, 0);
    StrikingWork lifted = new StrikingWork();
    lifted.setSilence(2, 15, 45);
    DUE.is("6 lifted: run(60)", lifted.run(60), 3 + 4 + 1);
    DUE.is("6 lifted: sounded(1)", lifted.sounded(1), 7);
    DUE.is("6 lifted: weight(1)", lifted.weight(1), 1990);
    strike("6 lifted: the end is not silent", lifted, 2, 45, 1, 3);
    strike("6 lifted: silent", lifted, 3, 30, 1, -2);
    strike("6 lifted: the beginning is silent", lifted, 4, 15, 1, -1);
    StrikingWork night = new StrikingWork();
    night.setSilence(1, 1380, 60);
    DUE.is("6 over midnight: run(59)", night.run(59), 0);
    DUE.is("6 over midnight: the end sounds", night.run(1), 1 + 1);
    night.setHands(1379);
    DUE.is("6 over midnight: the beginning is blocked", night.run(1), 0);
    StrikingWork empty = new StrikingWork();
    empty.setSilence(1, 15, 15);
    DUE.is("6 a silence of no length", empty.run(15), 1);
  }

  private static void p6RunWithoutWeight() {
    StrikingWork w = Works.spent();
    DUE.is("6 spent: weight(0)", w.weight(0), 0);
    DUE.is("6 spent: weight(1)", w.weight(1), 0);
    int missed = w.missed(1);
    DUE.is("6 spent: run(60)", w.run(60), 0);
    DUE.is("6 spent: missed(1)", w.missed(1), missed + 4);
    w.setMechanism(1, 1);
    w.setPosition(1, 3);
    w.wind(1, 2);
    DUE.is("6 one unit too few: run(15)", w.run(15), 0);
    DUE.is("6 one unit too few: missed(1)", w.missed(1), missed + 5);
    DUE.is("6 one unit too few: position(1)", w.position(1), 3);
    DUE.is("6 one unit too few: weight(1)", w.weight(1), 2);
    w.wind(1, 1);
    DUE.is("6 just enough: run(15)", w.run(15), 3);
    DUE.is("6 just enough: weight(1)", w.weight(1), 0);
    DUE.is("6 just enough: position(1)", w.position(1), 4);
    w.setSilence(2, 0, 1439);
    w.run(15);
    DUE.is("6 lifted hammers miss too", w.missed(1), missed + 6);
    w.setSilence(1, 0, 1439);
    w.run(15);
    DUE.is("6 a blocked train does not miss", w.missed(1), missed + 6);
  }

  private static void p7SetHands() {
    StrikingWork w = new StrikingWork();
    DUE.is("7 setHands(1439)", w.setHands(1439), 0);
    DUE.is("7 setHands(60)", w.setHands(60), 1439);
    DUE.is("7 setHands(60) again", w.setHands(60), 60);
    DUE.is("7 no release", w.strikeMinute(0), -1);
    DUE.is("7 no weight used", w.weight(0) + w.weight(1), 4000);
    DUE.is("7 no step of a wheel", w.position(0) + w.position(1), 2);
    DUE.is("7 setHands(0)", w.setHands(0), 60);
    for (int m : NO_MINUTES) {
      outOfRange("7 setHands(" + m + ")", x -> x.setHands(m));
    }
  }

  private static void p8Trip() {
    StrikingWork w = new StrikingWork();
    w.setHands(629);
    w.setSilence(1, 0, 1439);
    DUE.is("8 trip(0) in a blocking silence", w.trip(0), 1);
    DUE.is("8 trip(0) again", w.trip(0), 2);
    DUE.is("8 trip(1)", w.trip(1), 1);
    strike("8 the quarter strike", w, 0, 629, 1, 1);
    strike("8 the hour strike", w, 1, 629, 0, 2);
    DUE.is("8 weight(0)", w.weight(0), 1997);
    DUE.is("8 sounded(0)", w.sounded(0), 3);
    DUE.is("8 the minute stays", w.minute(), 629);
    w.setSilence(2, 0, 1439);
    DUE.is("8 trip(0) with lifted hammers sounds", w.trip(0), 3);
    DUE.is("8 it sounded", w.strikeBlows(0), 3);
    w.setMechanism(0, 2);
    DUE.is("8 a rack strikes the next hour", w.trip(0), 11);
    DUE.is("8 a rack keeps the position", w.position(0), 4);
    w.setMechanism(1, 2);
    DUE.is("8 a rack strikes the next quarter", w.trip(1), 2);
    w.setHands(720);
    DUE.is("8 at an hour the next one is due", w.trip(0), 1);
    for (int t : NO_TRAINS) {
      outOfRange("8 trip(" + t + ")", x -> x.trip(t));
    }
  }

  private static void p8TripNotPossible() {
    StrikingWork w = Works.spent();
    w.wind(0, 3);
    w.setMechanism(0, 1);
    w.setPosition(0, 4);
    refused("8 trip(0) with one unit too few", w, -3, x -> x.trip(0));
    w.setPosition(0, 3);
    DUE.is("8 trip(0) with just enough", w.trip(0), 3);
    DUE.is("8 weight(0)", w.weight(0), 0);
    w.setMechanism(0, 2);
    refused("8 trip(0) of a rack without weight", w, -3, x -> x.trip(0));
    StrikingWork none = new StrikingWork();
    none.setMechanism(0, 0);
    refused("8 trip(0) without a mechanism", none, -3, x -> x.trip(0));
    refused("8 no such train, checked first", none, -2, x -> x.trip(2));
    DUE.is("8 a refused trip saves nothing", none.undo(), 0);
  }

  private static void p9NextDue() {
    StrikingWork w = new StrikingWork();
    int[][] rows = {
      {0, 1, 1}, {14, 1, 1}, {15, 1, 2}, {45, 1, 4}, {59, 1, 4}, {60, 2, 1}, {659, 11, 4},
      {660, 12, 1}, {719, 12, 4}, {720, 1, 1}, {1379, 11, 4}, {1380, 12, 1}, {1425, 12, 4},
      {1439, 12, 4}
    };
    for (int[] row : rows) {
      w.setHands(row[0]);
      DUE.is("9 nextDue(0) at " + row[0], w.nextDue(0), row[1]);
      DUE.is("9 nextDue(1) at " + row[0], w.nextDue(1), row[2]);
    }
    w.setSilence(1, 0, 1439);
    DUE.is("9 the silence aside", w.nextDue(0), 12);
    w.setMechanism(0, 0);
    w.setPosition(0, 5);
    DUE.is("9 also without a mechanism", w.nextDue(0), 12);
    for (int t : NO_TRAINS) {
      outOfRange("9 nextDue(" + t + ")", x -> x.nextDue(t));
    }
  }

  private static void p10Lag() {
    StrikingWork w = new StrikingWork();
    w.setHands(300);
    for (int p = 1; p <= 12; p++) {
      w.setPosition(0, p);
      DUE.is("10 lag(0) at position " + p, w.lag(0), p <= 6 ? 6 - p : 18 - p);
    }
    w.setHands(330);
    for (int p = 1; p <= 4; p++) {
      w.setPosition(1, p);
      DUE.is("10 lag(1) at position " + p, w.lag(1), p <= 3 ? 3 - p : 3);
    }
    w.setPosition(0, 7);
    DUE.is("10 the greatest lag", w.lag(0), 11);
    w.setMechanism(0, 2);
    DUE.is("10 a rack has none", w.lag(0), 0);
    w.setMechanism(0, 0);
    DUE.is("10 no mechanism has none", w.lag(0), 0);
    for (int t : NO_TRAINS) {
      outOfRange("10 lag(" + t + ")", x -> x.lag(t));
    }
  }

  private static void p11BlowsToCorrect() {
    StrikingWork w = new StrikingWork();
    DUE.is("11 in step", w.blowsToCorrect(0), 0);
    w.setPosition(0, 11);
    DUE.is("11 over the end of the wheel: 11 and 12", w.blowsToCorrect(0), 23);
    w.setPosition(0, 2);
    DUE.is("11 all but one", w.blowsToCorrect(0), 77);
    w.setPosition(1, 2);
    DUE.is("11 quarters: 2, 3 and 4", w.blowsToCorrect(1), 9);
    w.setMechanism(1, 2);
    DUE.is("11 a rack needs none", w.blowsToCorrect(1), 0);
    StrikingWork light = Works.spent();
    light.setMechanism(0, 1);
    light.setPosition(0, 12);
    DUE.is("11 the weight does not matter", light.blowsToCorrect(0), 12);
    DUE.is("11 the position stays", light.position(0), 12);
    for (int t : NO_TRAINS) {
      outOfRange("11 blowsToCorrect(" + t + ")", x -> x.blowsToCorrect(t));
    }
  }

  private static void p12HandsToCorrect() {
    StrikingWork w = new StrikingWork();
    w.setHands(37);
    DUE.is("12 in step: the shown minute", w.handsToCorrect(0), 37);
    w.setPosition(0, 2);
    DUE.is("12 the next hour", w.handsToCorrect(0), 60);
    w.setPosition(0, 12);
    DUE.is("12 eleven hours", w.handsToCorrect(0), 660);
    w.setHands(731);
    w.setPosition(0, 12);
    DUE.is("12 in the afternoon", w.handsToCorrect(0), 1380);
    w.setHands(1439);
    w.setPosition(0, 1);
    DUE.is("12 over midnight", w.handsToCorrect(0), 0);
    w.setPosition(0, 11);
    DUE.is("12 over midnight, later", w.handsToCorrect(0), 600);
    w.setHands(1431);
    w.setPosition(1, 3);
    DUE.is("12 quarters over midnight", w.handsToCorrect(1), 30);
    w.setPosition(1, 4);
    DUE.is("12 quarters in step", w.handsToCorrect(1), 1431);
    w.setHands(65);
    w.setPosition(1, 2);
    DUE.is("12 the next quarter", w.handsToCorrect(1), 75);
    w.setMechanism(0, 2);
    DUE.is("12 a rack: the shown minute", w.handsToCorrect(0), 65);
    w.setMechanism(0, 0);
    DUE.is("12 no mechanism: the shown minute", w.handsToCorrect(0), 65);
    DUE.is("12 the hands stay", w.minute(), 65);
    for (int t : NO_TRAINS) {
      outOfRange("12 handsToCorrect(" + t + ")", x -> x.handsToCorrect(t));
    }
  }

  private static void p13MinutesToMiss() {
    StrikingWork w = new StrikingWork();
    long digest = w.digest();
    // 2000 units last for 25 half days of 78, and for 1 to 9 of the next: 10 finds 5.
    DUE.is("13 hours of a full weight", w.minutesToMiss(0), 25 * 720 + 600);
    // 2000 units are just 200 hours of 10.
    DUE.is("13 quarters of a full weight", w.minutesToMiss(1), 200 * 60 + 15);
    DUE.is("13 nothing changes", w.digest(), digest);
    w.setSilence(2, 0, 1439);
    DUE.is("13 lifted hammers use the weight", w.minutesToMiss(1), 200 * 60 + 15);
    w.setSilence(1, 1, 0);
    // Only midnight is not silent: a day for each step of the wheel.
    DUE.is("13 blocked but at midnight", w.minutesToMiss(1), -1);
    StrikingWork light = Works.spent();
    DUE.is("13 spent rack of hours", light.minutesToMiss(0), 60);
    light.setSilence(1, 1, 0);
    DUE.is("13 a blocked release is not missed", light.minutesToMiss(0), 1440);
    light.setSilence(1, 0, 1439);
    DUE.is("13 all releases blocked", light.minutesToMiss(0), -1);
    light.setSilence(0, 0, 0);
    light.setMechanism(0, 0);
    DUE.is("13 no mechanism", light.minutesToMiss(0), -1);
    light.setHands(1439);
    DUE.is("13 over midnight", light.minutesToMiss(1), 1);
    light.wind(1, 4);
    DUE.is("13 a rack with 4 units at midnight", light.minutesToMiss(1), 16);
    light.setMechanism(1, 1);
    light.setPosition(1, 1);
    DUE.is("13 a wheel with 4 units", light.minutesToMiss(1), 31);
    DUE.is("13 position(1) stays", light.position(1), 1);
    DUE.is("13 weight(1) stays", light.weight(1), 4);
    for (int t : NO_TRAINS) {
      outOfRange("13 minutesToMiss(" + t + ")", x -> x.minutesToMiss(t));
    }
  }

  /** A miss at minute 20000 counts, one at minute 20001 does not. */
  private static void p13MinutesToMissEdges() {
    StrikingWork w = Works.spent();
    w.setHands(0);
    w.setMechanism(1, 1);
    w.setPosition(1, 1);
    // Only minute 1275 is not silent. 13 days need 1+2+3+4 three times and 1; the 14th needs 2.
    w.wind(1, 31);
    w.setSilence(1, 1276, 1275);
    DUE.is("13 the 14th day", w.minutesToMiss(1), 13 * 1440 + 1275);
    w.setHands(1435);
    DUE.is("13 a miss at 20000", w.minutesToMiss(1), 13 * 1440 + 1280);
    w.setHands(1434);
    DUE.is("13 a miss at 20001 is too late", w.minutesToMiss(1), -1);
  }

  private static void p14Minute() {
    StrikingWork w = new StrikingWork();
    DUE.is("14 minute()", w.minute(), 0);
    w.run(17);
    DUE.is("14 after run(17)", w.minute(), 17);
    w.setHands(1430);
    DUE.is("14 after setHands(1430)", w.minute(), 1430);
    w.run(9);
    DUE.is("14 the last minute", w.minute(), 1439);
    w.run(1);
    DUE.is("14 then 0", w.minute(), 0);
    w.setHands(1439);
    w.run(1440);
    DUE.is("14 a day later", w.minute(), 1439);
    w.setSilence(1, 0, 1439);
    w.run(100);
    DUE.is("14 the hands go on in silence", w.minute(), 99);
  }

  private static void p15Position() {
    StrikingWork w = new StrikingWork();
    for (int i = 0; i < 26; i++) {
      DUE.is("15 position(0)", w.position(0), i % 12 + 1);
      DUE.is("15 position(1)", w.position(1), i % 4 + 1);
      w.trip(0);
      w.trip(1);
    }
    w.setMechanism(0, 0);
    DUE.is("15 without a mechanism", w.position(0), 3);
    for (int t : NO_TRAINS) {
      outOfRange("15 position(" + t + ")", x -> x.position(t));
    }
  }

  private static void p16Weight() {
    StrikingWork w = new StrikingWork();
    w.run(60);
    DUE.is("16 weight(0)", w.weight(0), 1999);
    DUE.is("16 weight(1)", w.weight(1), 1990);
    w.setSilence(2, 0, 1439);
    w.run(60);
    DUE.is("16 weight(0) with lifted hammers", w.weight(0), 1997);
    w.setMechanism(0, 0);
    w.run(60);
    DUE.is("16 weight(0) without a mechanism", w.weight(0), 1997);
    for (int t : NO_TRAINS) {
      outOfRange("16 weight(" + t + ")", x -> x.weight(t));
    }
  }

  private static void p17Sounded() {
    StrikingWork w = new StrikingWork();
    w.run(120);
    DUE.is("17 sounded(0)", w.sounded(0), 3);
    DUE.is("17 sounded(1)", w.sounded(1), 20);
    w.trip(0);
    DUE.is("17 a trip sounds", w.sounded(0), 6);
    w.setSilence(2, 0, 1439);
    w.run(60);
    DUE.is("17 lifted hammers do not", w.sounded(0), 6);
    DUE.is("17 nor the quarters", w.sounded(1), 20);
    for (int t : NO_TRAINS) {
      outOfRange("17 sounded(" + t + ")", x -> x.sounded(t));
    }
  }

  private static void p18Missed() {
    StrikingWork w = Works.spent();
    // A rack goes on with a small hour where a great one is too dear, so count from here.
    int hours = w.missed(0);
    int quarters = w.missed(1);
    w.run(60);
    DUE.is("18 missed(0)", w.missed(0), hours + 1);
    DUE.is("18 missed(1)", w.missed(1), quarters + 4);
    w.undo();
    DUE.is("18 missed(0) after undo()", w.missed(0), hours);
    DUE.is("18 missed(1) after undo()", w.missed(1), quarters);
    w.run(60);
    w.trip(0);
    DUE.is("18 a trip is no missed release", w.missed(0), hours + 1);
    w.setMechanism(0, 0);
    w.run(60);
    DUE.is("18 no mechanism misses none", w.missed(0), hours + 1);
    DUE.is("18 the quarters go on missing", w.missed(1), quarters + 8);
    for (int t : NO_TRAINS) {
      outOfRange("18 missed(" + t + ")", x -> x.missed(t));
    }
  }

  private static void p19IsSilent() {
    for (int mode = 0; mode < 3; mode++) {
      Works.silentMinutes(DUE, mode, 60, 200);
      Works.silentMinutes(DUE, mode, 1320, 420);
      Works.silentMinutes(DUE, mode, 0, 1439);
      Works.silentMinutes(DUE, mode, 1439, 0);
      Works.silentMinutes(DUE, mode, 1, 0);
      Works.silentMinutes(DUE, mode, 500, 500);
      Works.silentMinutes(DUE, mode, 0, 0);
    }
    for (int m : NO_MINUTES) {
      outOfRange("19 isSilent(" + m + ")", x -> x.isSilent(m));
    }
  }

  private static StrikingWork seven() {
    StrikingWork w = new StrikingWork();
    w.setSilence(2, 70, 80);
    w.run(90);
    return w;
  }

  private static void p20StrikeMinute() {
    StrikingWork w = seven();
    int[] minutes = {90, 75, 60, 60, 45, 30};
    for (int i = 0; i < 6; i++) {
      DUE.is("20 strikeMinute(" + i + ")", w.strikeMinute(i), minutes[i]);
    }
    DUE.is("20 strikeMinute(6), the seventh is forgotten", w.strikeMinute(6), -1);
    DUE.is("20 a great index", w.strikeMinute(Integer.MAX_VALUE), -1);
    DUE.is("20 NONE is no error", w.errorCount(-2), 0);
    outOfRange("20 strikeMinute(-1)", x -> x.strikeMinute(-1));
    outOfRange("20 strikeMinute(least)", x -> x.strikeMinute(Integer.MIN_VALUE));
  }

  private static void p21StrikeTrain() {
    StrikingWork w = seven();
    int[] trains = {1, 1, 0, 1, 1, 1};
    for (int i = 0; i < 6; i++) {
      DUE.is("21 strikeTrain(" + i + ")", w.strikeTrain(i), trains[i]);
    }
    DUE.is("21 strikeTrain(6)", w.strikeTrain(6), -1);
    DUE.is("21 a great index", w.strikeTrain(Integer.MAX_VALUE), -1);
    DUE.is("21 an empty record", new StrikingWork().strikeTrain(0), -1);
    DUE.is("21 NONE is no error", w.errorCount(-2), 0);
    outOfRange("21 strikeTrain(-1)", x -> x.strikeTrain(-1));
    outOfRange("21 strikeTrain(least)", x -> x.strikeTrain(Integer.MIN_VALUE));
  }

  private static void p22StrikeBlows() {
    StrikingWork w = seven();
    int[] blows = {2, -1, 1, 4, 3, 2};
    for (int i = 0; i < 6; i++) {
      DUE.is("22 strikeBlows(" + i + ")", w.strikeBlows(i), blows[i]);
    }
    DUE.is("22 strikeBlows(6)", w.strikeBlows(6), 0);
    DUE.is("22 a great index", w.strikeBlows(Integer.MAX_VALUE), 0);
    DUE.is("22 an empty record", new StrikingWork().strikeBlows(0), 0);
    w.setSilence(2, 0, 1439);
    w.run(30);
    DUE.is("22 -3 is no error here", w.strikeBlows(2), -3);
    DUE.is("22 -2 is no error here", w.strikeBlows(0), -2);
    DUE.is("22 errorCount(-2)", w.errorCount(-2), 0);
    DUE.is("22 errorCount(-3)", w.errorCount(-3), 0);
    outOfRange("22 strikeBlows(-1)", x -> x.strikeBlows(-1));
    outOfRange("22 strikeBlows(least)", x -> x.strikeBlows(Integer.MIN_VALUE));
  }

  private static void p23Undo() {
    StrikingWork w = new StrikingWork();
    refused("23 undo() of nothing", w, -4, x -> x.undo());
    for (int i = 1; i <= 7; i++) {
      w.setHands(i * 100);
    }
    for (int left = 4; left >= 0; left--) {
      DUE.is("23 undo()", w.undo(), left);
      DUE.is("23 minute()", w.minute(), (left + 2) * 100);
    }
    refused("23 the two oldest are dropped", w, -4, x -> x.undo());
    w.run(30);
    DUE.is("23 undo() of a run", w.undo(), 0);
    DUE.is("23 the record goes back", w.strikeMinute(0), -1);
    w.setMechanism(0, 0);
    w.trip(0);
    w.undo();
    DUE.is("23 the error counters stay", w.errorCount(-3), 1);
    DUE.is("23 the counter of -4 too", w.errorCount(-4), 2);
    w.lag(0);
    w.minutesToMiss(0);
    w.digest();
    refused("23 questions save nothing", w, -4, x -> x.undo());
  }

  private static void undone(String name, boolean changes, ToIntFunction<StrikingWork> call) {
    StrikingWork w = Works.used();
    w.run(500);
    long digest = w.digest();
    call.applyAsInt(w);
    DUE.is("23 " + name + " changes something", w.digest() != digest + 1 ? 1 : 0, changes ? 1 : 0);
    DUE.is("23 undo() of " + name, w.undo(), 4);
    DUE.is("23 digest() after the undo of " + name, w.digest(), digest);
  }

  private static void p23UndoOfEachMethod() {
    undone("setMechanism", true, w -> w.setMechanism(1, 2));
    undone("setMechanism to the same", false, w -> w.setMechanism(1, 1));
    undone("setPosition", true, w -> w.setPosition(0, 12));
    undone("setPosition to the same", false, w -> w.setPosition(0, w.position(0)));
    undone("setSilence", true, w -> w.setSilence(1, 3, 4));
    undone("setSilence to the same", false, w -> w.setSilence(2, 30, 50));
    undone("wind", true, w -> w.wind(0, 2000));
    undone("run", true, w -> w.run(1440));
    undone("run(0)", false, w -> w.run(0));
    undone("setHands", true, w -> w.setHands(5));
    undone("setHands to the same", false, w -> w.setHands(w.minute()));
    undone("trip", true, w -> w.trip(0));
    StrikingWork full = new StrikingWork();
    full.wind(0, 5);
    DUE.is("23 undo() of a wind without gain", full.undo(), 0);
  }

  private static void p24ErrorCount() {
    StrikingWork w = new StrikingWork();
    w.setHands(-1);
    w.setHands(-1);
    w.setMechanism(0, 0);
    w.trip(0);
    w.undo();
    w.undo();
    w.undo();
    w.undo();
    DUE.is("24 errorCount(-2)", w.errorCount(-2), 2);
    DUE.is("24 errorCount(-3)", w.errorCount(-3), 1);
    DUE.is("24 errorCount(-4)", w.errorCount(-4), 3);
    for (int c : new int[] {-1, 0, 2, -5, Integer.MIN_VALUE, Integer.MAX_VALUE}) {
      outOfRange("24 errorCount(" + c + ")", x -> x.errorCount(c));
    }
  }

  private static long hash(int... values) {
    long h = 2657;
    for (int v : values) {
      h = 31 * h + v;
    }
    return h;
  }

  private static void p25Digest() {
    DUE.is("25 digest() of a new work", new StrikingWork().digest(),
        hash(0, 0, 0, 0, 1, 1, 2000, 0, 0, 1, 0, 1, 1, 2000, 0, 0, 1, 0, 0, 0, 0, 0, 0));
    StrikingWork w = new StrikingWork();
    w.setSilence(2, 70, 80);
    w.run(76);
    w.setPosition(0, 5);
    w.trip(0);
    w.setMechanism(1, 2);
    w.run(2000);
    w.trip(9);
    w.setHands(130);
    DUE.is("25 digest()", w.digest(), hash(2, 0, 0, 130,
        1, 6, 1994, 6, 0, 3, 9,
        2, 2, 1989, 10, 0, 1, 0,
        2, 70, 80,
        6, 76, 0, 5, 75, 1, -1, 60, 0, 1, 60, 1, 4, 45, 1, 3, 30, 1, 2,
        5));
    DUE.is("25 asking changes nothing", w.digest(), w.digest());
  }
}
