import java.util.Random;

/**
 * Long mixed runs of calls, each answer and each digest held against PlainWork. The seeds are
 * fixed, so every run of the test is the same.
 */
public final class ModelTest {
  private static final int RUNS = 1200;
  private static final int CALLS = 512;
  private static final int METHODS = 24;
  private static final int[] ODD = {
    Integer.MIN_VALUE, Integer.MIN_VALUE + 1, -1441, -5, -4, -3, -2, -1, 0, 1, 2, 3, 4, 5, 6, 12,
    13, 14, 15, 59, 60, 1438, 1439, 1440, 1441, 1999, 2000, 2001, 65536, Integer.MAX_VALUE
  };
  private static final Due DUE = new Due();

  private final Random random;
  private final StrikingWork work = new StrikingWork();
  private final PlainWork plain = new PlainWork();
  private final int run;
  // How heavy running is against the other calls: light runs keep weights, heavy ones spend them.
  private final int runShare;
  private final int wrongShare;

  private ModelTest(int run) {
    this.run = run;
    random = new Random(7919L * run + 17);
    runShare = random.nextInt(40);
    wrongShare = random.nextInt(12);
  }

  public static void main(String[] args) {
    for (int run = 0; run < RUNS && DUE.allWell(); run++) {
      new ModelTest(run).play();
    }
    DUE.end("ModelTest");
  }

  private void play() {
    for (int call = 0; call < CALLS / 2 && DUE.allWell(); call++) {
      step();
      DUE.is("run " + run + ": digest()", work.digest(), plain.digest());
    }
  }

  private void step() {
    int method = random.nextInt(100) < runShare ? 4 : random.nextInt(METHODS);
    if (method < 8) {
      change(method);
    } else {
      ask(method);
    }
  }

  private void check(String call, long got, long want) {
    DUE.is("run " + run + ": " + call, got, want);
  }

  private int pick(int low, int high) {
    if (random.nextInt(100) < wrongShare) {
      return ODD[random.nextInt(ODD.length)];
    }
    return low + random.nextInt(high - low + 1);
  }

  private int pickMinute() {
    int m = pick(0, 1439);
    return random.nextBoolean() || m < 0 ? m : m / 15 * 15;
  }

  private void change(int method) {
    int t = pick(0, 1);
    int a;
    switch (method) {
      case 0 -> {
        a = pick(0, 2);
        check("setMechanism(" + t + ", " + a + ")", work.setMechanism(t, a), plain.setMechanism(t, a));
      }
      case 1 -> {
        a = pick(1, t == 1 ? 4 : 12);
        check("setPosition(" + t + ", " + a + ")", work.setPosition(t, a), plain.setPosition(t, a));
      }
      case 2 -> {
        a = pick(0, 2);
        int b = pickMinute();
        int e = random.nextInt(8) == 0 ? b : pickMinute();
        check("setSilence(" + a + ", " + b + ", " + e + ")", work.setSilence(a, b, e),
            plain.setSilence(a, b, e));
      }
      case 3 -> {
        a = random.nextBoolean() ? pick(1, 40) : pick(1, 2000);
        check("wind(" + t + ", " + a + ")", work.wind(t, a), plain.wind(t, a));
      }
      case 4 -> {
        a = random.nextBoolean() ? pick(0, 1440) : pick(0, 61);
        check("run(" + a + ")", work.run(a), plain.run(a));
      }
      case 5 -> {
        a = pickMinute();
        check("setHands(" + a + ")", work.setHands(a), plain.setHands(a));
      }
      case 6 -> check("trip(" + t + ")", work.trip(t), plain.trip(t));
      default -> check("undo()", work.undo(), plain.undo());
    }
  }

  private void ask(int method) {
    int t = pick(0, 1);
    int m = pickMinute();
    int i = pick(0, 6);
    int c = pick(-5, -1);
    switch (method) {
      case 8 -> check("nextDue(" + t + ")", work.nextDue(t), plain.nextDue(t));
      case 9 -> check("lag(" + t + ")", work.lag(t), plain.lag(t));
      case 10 -> check("blowsToCorrect(" + t + ")", work.blowsToCorrect(t), plain.blowsToCorrect(t));
      case 11 -> check("handsToCorrect(" + t + ")", work.handsToCorrect(t), plain.handsToCorrect(t));
      case 12 -> check("minutesToMiss(" + t + ")", work.minutesToMiss(t), plain.minutesToMiss(t));
      case 13 -> check("minute()", work.minute(), plain.minute());
      case 14 -> check("position(" + t + ")", work.position(t), plain.position(t));
      case 15 -> check("weight(" + t + ")", work.weight(t), plain.weight(t));
      case 16 -> check("sounded(" + t + ")", work.sounded(t), plain.sounded(t));
      case 17 -> check("missed(" + t + ")", work.missed(t), plain.missed(t));
      case 18 -> check("isSilent(" + m + ")", work.isSilent(m), plain.isSilent(m));
      case 19 -> check("strikeMinute(" + i + ")", work.strikeMinute(i), plain.strikeMinute(i));
      case 20 -> check("strikeTrain(" + i + ")", work.strikeTrain(i), plain.strikeTrain(i));
      case 21 -> check("strikeBlows(" + i + ")", work.strikeBlows(i), plain.strikeBlows(i));
      case 22 -> check("errorCount(" + c + ")", work.errorCount(c), plain.errorCount(c));
      default -> check("undo()", work.undo(), plain.undo());
    }
  }
}
