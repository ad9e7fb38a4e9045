/** The five examples of the document's Description. */
public final class ExamplesTest {
  private static final Due DUE = new Due();

  public static void main(String[] args) {
    handsOutOfStep();
    blockingSilence();
    rackStrikesShownHour();
    errors();
    dayOfBlows();
    DUE.end("ExamplesTest");
  }

  private static void handsOutOfStep() {
    StrikingWork w = new StrikingWork();
    DUE.is("1: run(60)", w.run(60), 11);
    DUE.is("1: strikeBlows(0)", w.strikeBlows(0), 1);
    DUE.is("1: strikeBlows(1)", w.strikeBlows(1), 4);
    DUE.is("1: position(0)", w.position(0), 2);
    DUE.is("1: setHands(600)", w.setHands(600), 60);
    DUE.is("1: lag(0)", w.lag(0), 9);
    DUE.is("1: blowsToCorrect(0)", w.blowsToCorrect(0), 54);
    DUE.is("1: handsToCorrect(0)", w.handsToCorrect(0), 780);
  }

  private static void blockingSilence() {
    StrikingWork w = new StrikingWork();
    DUE.is("2: setSilence(1, 60, 200)", w.setSilence(1, 60, 200), 0);
    DUE.is("2: run(240)", w.run(240), 14);
    DUE.is("2: lag(0)", w.lag(0), 3);
    DUE.is("2: trip(0)", w.trip(0), 2);
    DUE.is("2: lag(0) after the trip", w.lag(0), 2);
  }

  private static void rackStrikesShownHour() {
    StrikingWork w = new StrikingWork();
    DUE.is("3: setMechanism(0, 2)", w.setMechanism(0, 2), 1);
    DUE.is("3: setHands(1439)", w.setHands(1439), 0);
    DUE.is("3: run(1)", w.run(1), 13);
    DUE.is("3: strikeTrain(0)", w.strikeTrain(0), 0);
    DUE.is("3: strikeBlows(0)", w.strikeBlows(0), 12);
  }

  private static void errors() {
    StrikingWork w = new StrikingWork();
    DUE.is("4: setMechanism(1, 0)", w.setMechanism(1, 0), 1);
    DUE.is("4: trip(1)", w.trip(1), -3);
    DUE.is("4: errorCount(-3)", w.errorCount(-3), 1);
    DUE.is("4: setPosition(1, 5)", w.setPosition(1, 5), -2);
  }

  private static void dayOfBlows() {
    StrikingWork w = new StrikingWork();
    DUE.is("5: run(1440)", w.run(1440), 396);
    DUE.is("5: weight(0)", w.weight(0), 1844);
    DUE.is("5: minutesToMiss(0)", w.minutesToMiss(0), 17160);
  }
}
