import java.util.ArrayList;
import java.util.List;

/**
 * The document's words once more, as slowly and plainly as they can be written: minute by minute,
 * with searches instead of sums, and whole copies as saved states. ModelTest holds it against the
 * class.
 */
final class PlainWork {
  private record Strike(int minute, int train, int blows, boolean sounded) {}

  private int minute = 0;
  private int[] mechanism = {1, 1};
  private int[] position = {1, 1};
  private int[] weight = {2000, 2000};
  private int[] sounded = {0, 0};
  private int[] missed = {0, 0};
  private int mode = 0;
  private int begin = 0;
  private int end = 0;
  private List<Strike> record = new ArrayList<>();

  private List<PlainWork> saved = new ArrayList<>();
  private int[] errors = new int[3];

  private PlainWork copy() {
    PlainWork c = new PlainWork();
    c.take(this);
    return c;
  }

  private void take(PlainWork o) {
    minute = o.minute;
    mechanism = o.mechanism.clone();
    position = o.position.clone();
    weight = o.weight.clone();
    sounded = o.sounded.clone();
    missed = o.missed.clone();
    mode = o.mode;
    begin = o.begin;
    end = o.end;
    record = new ArrayList<>(o.record);
  }

  private int error(int code) {
    errors[-code - 2]++;
    return code;
  }

  private void save() {
    saved.add(copy());
    if (saved.size() > 5) {
      saved.remove(0);
    }
  }

  private static boolean in(int v, int low, int high) {
    return low <= v && v <= high;
  }

  private static int turn(int train) {
    return train == 0 ? 12 : 4;
  }

  private static int hourNumber(int minute) {
    int hour = minute / 60;
    return hour % 12 == 0 ? 12 : hour % 12;
  }

  private static int quarterNumber(int minute) {
    return minute / 15 % 4 == 0 ? 4 : minute / 15 % 4;
  }

  private boolean silent(int m) {
    if (mode == 0) {
      return false;
    }
    return (begin < end && m >= begin && m < end) || (begin > end && (m >= begin || m < end));
  }

  private int release(int train, int due, boolean lifted) {
    if (mechanism[train] == 0) {
      return 0;
    }
    int blows = mechanism[train] == 1 ? position[train] : due;
    if (weight[train] < blows) {
      missed[train]++;
      return 0;
    }
    weight[train] -= blows;
    if (mechanism[train] == 1) {
      position[train] = position[train] % turn(train) + 1;
    }
    record.add(0, new Strike(minute, train, blows, !lifted));
    if (record.size() > 6) {
      record.remove(6);
    }
    if (lifted) {
      return 0;
    }
    sounded[train] += blows;
    return blows;
  }

  private int oneMinute() {
    minute = minute == 1439 ? 0 : minute + 1;
    if (mode == 1 && silent(minute)) {
      return 0;
    }
    boolean lifted = mode == 2 && silent(minute);
    int heard = 0;
    if (minute % 15 == 0) {
      heard += release(1, quarterNumber(minute), lifted);
    }
    if (minute % 60 == 0) {
      heard += release(0, hourNumber(minute), lifted);
    }
    return heard;
  }

  private static int dueAfter(int train, int shown) {
    int m = shown;
    do {
      m = m == 1439 ? 0 : m + 1;
    } while (m % (train == 0 ? 60 : 15) != 0);
    return train == 0 ? hourNumber(m) : quarterNumber(m);
  }

  private int lagAt(int train, int shown) {
    if (mechanism[train] != 1) {
      return 0;
    }
    int steps = 0;
    for (int p = position[train]; p != dueAfter(train, shown); p = p % turn(train) + 1) {
      steps++;
    }
    return steps;
  }

  int setMechanism(int train, int m) {
    if (!in(train, 0, 1) || !in(m, 0, 2)) {
      return error(-2);
    }
    save();
    int before = mechanism[train];
    mechanism[train] = m;
    return before;
  }

  int setPosition(int train, int p) {
    if (!in(train, 0, 1) || !in(p, 1, turn(train))) {
      return error(-2);
    }
    save();
    int before = position[train];
    position[train] = p;
    return before;
  }

  int setSilence(int m, int b, int e) {
    if (!in(m, 0, 2) || !in(b, 0, 1439) || !in(e, 0, 1439)) {
      return error(-2);
    }
    save();
    int before = mode;
    mode = m;
    begin = b;
    end = e;
    return before;
  }

  int wind(int train, int units) {
    if (!in(train, 0, 1) || !in(units, 1, 2000)) {
      return error(-2);
    }
    save();
    int before = weight[train];
    weight[train] = before + units > 2000 ? 2000 : before + units;
    return weight[train] - before;
  }

  int run(int minutes) {
    if (!in(minutes, 0, 1440)) {
      return error(-2);
    }
    save();
    int heard = 0;
    for (int i = 0; i < minutes; i++) {
      heard += oneMinute();
    }
    return heard;
  }

  int setHands(int m) {
    if (!in(m, 0, 1439)) {
      return error(-2);
    }
    save();
    int before = minute;
    minute = m;
    return before;
  }

  int trip(int train) {
    if (!in(train, 0, 1)) {
      return error(-2);
    }
    PlainWork before = copy();
    int heard = release(train, dueAfter(train, minute), false);
    if (heard == 0) {
      take(before);
      return error(-3);
    }
    saved.add(before);
    if (saved.size() > 5) {
      saved.remove(0);
    }
    return heard;
  }

  int nextDue(int train) {
    return in(train, 0, 1) ? dueAfter(train, minute) : error(-2);
  }

  int lag(int train) {
    return in(train, 0, 1) ? lagAt(train, minute) : error(-2);
  }

  int blowsToCorrect(int train) {
    if (!in(train, 0, 1)) {
      return error(-2);
    }
    PlainWork c = copy();
    int blows = 0;
    for (int i = lagAt(train, minute); i > 0; i--) {
      c.weight[train] = 2000;
      blows += c.trip(train);
    }
    return blows;
  }

  int handsToCorrect(int train) {
    if (!in(train, 0, 1)) {
      return error(-2);
    }
    int m = minute;
    while (lagAt(train, m) != 0) {
      m = m == 1439 ? 0 : m + 1;
    }
    return m;
  }

  int minutesToMiss(int train) {
    if (!in(train, 0, 1)) {
      return error(-2);
    }
    PlainWork c = copy();
    for (int i = 1; i <= 20000; i++) {
      c.oneMinute();
      if (c.missed[train] > missed[train]) {
        return i;
      }
    }
    return -1;
  }

  int minute() {
    return minute;
  }

  int position(int train) {
    return in(train, 0, 1) ? position[train] : error(-2);
  }

  int weight(int train) {
    return in(train, 0, 1) ? weight[train] : error(-2);
  }

  int sounded(int train) {
    return in(train, 0, 1) ? sounded[train] : error(-2);
  }

  int missed(int train) {
    return in(train, 0, 1) ? missed[train] : error(-2);
  }

  int isSilent(int m) {
    if (!in(m, 0, 1439)) {
      return error(-2);
    }
    return silent(m) ? 1 : 0;
  }

  int strikeMinute(int index) {
    if (index < 0) {
      return error(-2);
    }
    return index >= record.size() ? -1 : record.get(index).minute();
  }

  int strikeTrain(int index) {
    if (index < 0) {
      return error(-2);
    }
    return index >= record.size() ? -1 : record.get(index).train();
  }

  int strikeBlows(int index) {
    if (index < 0) {
      return error(-2);
    }
    return index >= record.size() ? 0 : blowsOf(record.get(index));
  }

  private static int blowsOf(Strike s) {
    return s.sounded() ? s.blows() : -s.blows();
  }

  int undo() {
    if (saved.isEmpty()) {
      return error(-4);
    }
    take(saved.remove(saved.size() - 1));
    return saved.size();
  }

  int errorCount(int code) {
    return in(code, -4, -2) ? errors[-code - 2] : error(-2);
  }

  long digest() {
    List<Integer> values = new ArrayList<>();
    for (int e : errors) {
      values.add(e);
    }
    values.add(minute);
    for (int t = 0; t < 2; t++) {
      values.addAll(List.of(mechanism[t], position[t], weight[t], sounded[t], missed[t],
          dueAfter(t, minute), lagAt(t, minute)));
    }
    values.addAll(List.of(mode, begin, end, record.size()));
    for (Strike s : record) {
      values.addAll(List.of(s.minute(), s.train(), blowsOf(s)));
    }
    values.add(saved.size());
    long h = 2657;
    for (int v : values) {
      h = 31 * h + v;
    }
    return h;
  }
}
