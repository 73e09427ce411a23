import java.util.ArrayList;
import java.util.Arrays;
import java.util.List;
import java.util.TreeMap;

/** The same shop once more, written plainly and apart from LeadCases, for ModelTest to compare with. */
final class NaiveShop {
  static final String FACES = "abcdefghijklmnopqrstuvwxyz.,-";

  static final class Lead {
    int number, font;
    char face;
    int wear;
    boolean turned;
    boolean melted;

    int width() { return widthOf(face, font); }
    boolean is(char otherFace, int otherFont) { return face == otherFace && font == otherFont; }
  }

  static final class Row {
    int font;
    boolean last;
    String asked; // with one blank for each gap
    List<Lead> leads = new ArrayList<>();
    List<List<Integer>> gaps = new ArrayList<>(); // the last one stands behind the sorts
    Frame form;

    String faces() { return asked.replace(" ", ""); }
    int gapCount() { return asked.length() - faces().length(); }
    boolean wrong(int place) {
      Lead lead = leads.get(place);
      return lead.turned || lead.face != faces().charAt(place);
    }
    int leadWidth() { return leads.stream().mapToInt(Lead::width).sum(); }
    int spaceWidth() { return gaps.stream().flatMap(List::stream).mapToInt(u -> u).sum(); }
  }

  static final class Frame {
    int number, state, proofs;
  }

  /** What the next line would be. */
  static final class Plan {
    String asked;
    int taken;
    boolean last;
  }

  final List<Lead> all = new ArrayList<>();
  List<List<Lead>> boxes = new ArrayList<>();
  final TreeMap<Integer, Integer> store = new TreeMap<>();
  String text = "";
  int measure = 60;
  final List<Row> rows = new ArrayList<>();
  final List<Frame> frames = new ArrayList<>();
  final List<Lead> heap = new ArrayList<>();
  String paper = "";
  /** How often something happened, so that ModelTest can see that its runs reach it. */
  final TreeMap<String, Integer> seen;

  NaiveShop(TreeMap<String, Integer> seen) {
    this.seen = seen;
    for (int i = 0; i < 58; i++) boxes.add(new ArrayList<>());
    for (int unit : new int[] {1, 2, 3, 4, 6}) store.put(unit, 0);
  }

  private void note(String what) { seen.merge(what, 1, Integer::sum); }

  static int widthOf(char face, int font) {
    int width = "mw".indexOf(face) >= 0 ? 6 : "rstf".indexOf(face) >= 0 ? 3 : "ijl.,-".indexOf(face) >= 0 ? 2 : 4;
    return width + font;
  }

  static int widthOf(String words, int font) {
    int width = 0;
    for (char sign : words.toCharArray()) width += sign == ' ' ? 3 : widthOf(sign, font);
    return width;
  }

  private List<Lead> box(int font, int box) { return boxes.get(font * 29 + box); }
  private List<Lead> box(int font, char face) { return box(font, FACES.indexOf(face)); }

  private static void index(boolean there) { if (!there) throw new IndexOutOfBoundsException(); }
  private static void range(boolean in) { if (!in) throw new IllegalArgumentException(); }
  private static void state(boolean right) { if (!right) throw new IllegalStateException(); }
  private static boolean in(int x, int low, int high) { return x >= low && x <= high; }
  private static void indexBox(int font, int box) { index(in(font, 0, 1) && in(box, 0, 28)); }
  private Row row(int line) { index(in(line, 0, rows.size() - 1)); return rows.get(line); }
  private Frame frame(int form) { index(in(form, 0, frames.size() - 1)); return frames.get(form); }

  int cast(int font, int box, int number) {
    indexBox(font, box);
    range(in(number, 1, 40));
    state(all.size() + number <= 300);
    for (int i = 0; i < number; i++) {
      Lead lead = new Lead();
      lead.number = all.size();
      lead.font = font;
      lead.face = FACES.charAt(box);
      all.add(lead);
      box(font, box).add(lead);
    }
    return all.size();
  }

  int spaces(int units, int number) {
    range(store.containsKey(units) && in(number, 1, 100));
    state(store.get(units) + number <= 1000);
    return store.merge(units, number, Integer::sum);
  }

  int type(char sign) {
    range(sign == ' ' || FACES.indexOf(sign) >= 0);
    state(text.length() < 60);
    text += sign;
    return text.length();
  }

  int clear() {
    int length = text.length();
    text = "";
    return length;
  }

  int measure(int units) {
    range(in(units, 20, 200));
    state(rows.isEmpty());
    int before = measure;
    measure = units;
    return before;
  }

  /** The line that the text begins with; null if it has no word. */
  private static Plan plan(String text, int font, int measure) {
    int blanks = 0;
    while (blanks < text.length() && text.charAt(blanks) == ' ') blanks++;
    if (blanks == text.length()) return null;
    String[] words = text.trim().split(" +");
    Plan plan = new Plan();
    if (widthOf(words[0], font) > measure) {
      int most = 1;
      for (int k = 2; k < words[0].length(); k++) {
        if (widthOf(words[0].substring(0, k) + "-", font) <= measure) most = k;
      }
      plan.asked = words[0].substring(0, most) + "-";
      plan.taken = blanks + most;
      plan.last = false;
      return plan;
    }
    int most = 1;
    for (int k = 2; k <= words.length; k++) {
      if (widthOf(String.join(" ", Arrays.copyOf(words, k)), font) <= measure) most = k;
    }
    plan.asked = String.join(" ", Arrays.copyOf(words, most));
    plan.last = most == words.length;
    int at = 0;
    for (int k = 0; k < most; k++) at = text.indexOf(words[k], at) + words[k].length();
    plan.taken = at;
    return plan;
  }

  private Lead takeFor(char face, int font, boolean turns, List<List<Lead>> from) {
    List<Lead> own = from.get(font * 29 + FACES.indexOf(face));
    if (!own.isEmpty()) return own.remove(own.size() - 1);
    if (!turns) return null;
    List<Lead> best = null;
    for (int b = 28; b >= 0; b--) {
      List<Lead> other = from.get(font * 29 + b);
      if (other.isEmpty() || other.get(other.size() - 1).width() != widthOf(face, font)) continue;
      if (best == null || other.size() >= best.size()) best = other;
    }
    if (best == null) return null;
    Lead lead = best.remove(best.size() - 1);
    lead.turned = true;
    if (lead.face == face) note("turned, with the face asked for");
    return lead;
  }

  private List<List<Lead>> copyOfBoxes() {
    List<List<Lead>> copy = new ArrayList<>();
    for (List<Lead> box : boxes) copy.add(new ArrayList<>(box));
    return copy;
  }

  int set(int font, boolean turns) {
    index(in(font, 0, 1));
    Plan plan = plan(text, font, measure);
    state(plan != null && rows.size() < 12);
    List<List<Lead>> then = copyOfBoxes();
    Row row = new Row();
    row.font = font;
    row.last = plan.last;
    row.asked = plan.asked;
    for (char sign : row.faces().toCharArray()) {
      Lead lead = takeFor(sign, font, turns, then);
      if (lead == null) {
        for (Lead taken : row.leads) taken.turned = false;
        note(row.leads.isEmpty() ? "not set, first sign" : "not set, later sign");
        if (sign == '-') note("not set, no hyphen");
        return -10 - FACES.indexOf(sign);
      }
      if (lead.turned) note("turned");
      row.leads.add(lead);
    }
    boxes = then;
    if (plan.asked.endsWith("-") && !plan.last) note("divided");
    text = text.substring(plan.taken);
    rows.add(row);
    fill(row);
    return rows.size() - 1;
  }

  private void fill(Row row) {
    row.gaps.clear();
    int between = row.gapCount();
    for (int i = 0; i <= between; i++) row.gaps.add(new ArrayList<>());
    int rest = measure - row.leadWidth();
    if (rest < 0) {
      note("rest below 0");
      return;
    }
    int[] want = new int[between + 1];
    if (between == 0) {
      want[0] = rest;
    } else {
      for (int i = 0; i < rest; i++) want[i % between]++;
      if (row.last || want[0] > 12) {
        note(row.last ? "last line" : "gap too wide");
        if (rest >= 3 * between) {
          Arrays.fill(want, 3);
          want[between] = rest - 3 * between;
        } else {
          note("rest too small for plain gaps");
        }
      } else {
        note("shared gaps");
      }
    }
    for (int i = 0; i <= between; i++) {
      int open = want[i];
      for (;;) {
        int best = 0;
        for (int unit : store.keySet()) if (unit <= open && store.get(unit) > 0) best = unit;
        if (best == 0) break;
        store.merge(best, -1, Integer::sum);
        row.gaps.get(i).add(best);
        open -= best;
      }
      if (open > 0) note("open gap");
    }
  }

  private void spacesBack(Row row) {
    for (List<Integer> gap : row.gaps) for (int unit : gap) store.merge(unit, 1, Integer::sum);
    row.gaps.clear();
  }

  private int back(Lead lead) {
    lead.turned = false;
    if (lead.wear >= 12) {
      lead.melted = true;
      note("melted");
      return 0;
    }
    box(lead.font, lead.face).add(lead);
    return 1;
  }

  int mend(int line, int place) {
    Row row = row(line);
    index(in(place, 0, row.leads.size() - 1));
    state(row.wrong(place));
    char face = row.faces().charAt(place);
    List<Lead> own = box(row.font, face);
    Lead right = null;
    if (!own.isEmpty() && own.get(own.size() - 1).is(face, row.font)) {
      right = own.remove(own.size() - 1);
      note("mended from a box");
    } else {
      for (Lead lead : heap) {
        if (lead.is(face, row.font) && (right == null || lead.number < right.number)) right = lead;
      }
      if (right != null) {
        if (heap.indexOf(right) != 0) note("mended from within the pie");
        heap.remove(right);
        note("mended from the pie");
      }
    }
    if (right == null) note("not mended");
    state(right != null);
    Lead old = row.leads.get(place);
    row.leads.set(place, right);
    back(old);
    if (row.form != null) {
      if (row.form.state == 1) note("mended in a sound form");
      row.form.state = 0;
    }
    spacesBack(row);
    fill(row);
    return right.number;
  }

  private int backWithLine(Row row) {
    int count = 0;
    for (int i = row.leads.size() - 1; i >= 0; i--) count += back(row.leads.get(i));
    spacesBack(row);
    rows.remove(row);
    return count;
  }

  int putBack(int line) {
    Row row = row(line);
    state(row.form == null);
    return backWithLine(row);
  }

  int foul(int font, int box, int other) {
    indexBox(font, box);
    indexBox(font, other);
    range(box != other);
    state(!box(font, box).isEmpty());
    Lead lead = box(font, box).remove(box(font, box).size() - 1);
    box(font, other).add(lead);
    return lead.number;
  }

  int sortPie(int number) {
    range(in(number, 1, 300));
    int count = 0;
    for (int i = 0; i < number && !heap.isEmpty(); i++) count += back(heap.remove(0));
    return count;
  }

  int lock(int first, int last) {
    row(first);
    row(last);
    range(first <= last);
    for (int i = first; i <= last; i++) state(rows.get(i).form == null);
    state(frames.size() < 4);
    Frame frame = new Frame();
    frame.number = frames.size();
    frames.add(frame);
    for (int i = first; i <= last; i++) rows.get(i).form = frame;
    return frame.number;
  }

  private List<Row> rowsOf(Frame frame) {
    List<Row> found = new ArrayList<>();
    for (Row row : rows) if (row.form == frame) found.add(row);
    return found;
  }

  private int slack(Row row) { return measure - row.leadWidth() - row.spaceWidth(); }

  int lift(int form) {
    Frame frame = frame(form);
    state(frame.state != 2);
    List<Row> mine = rowsOf(frame);
    if (mine.stream().allMatch(row -> slack(row) == 0)) {
      frame.state = 1;
      note("sound");
      return 0;
    }
    int fallen = 0;
    int tight = 0;
    for (Row row : mine) {
      row.form = null;
      if (slack(row) == 0) {
        tight++;
        continue;
      }
      for (Lead lead : row.leads) {
        lead.turned = false;
        heap.add(lead);
        fallen++;
      }
      spacesBack(row);
      rows.remove(row);
    }
    frame.state = 2;
    note(tight > 0 ? "broken in part" : "broken");
    return fallen;
  }

  int proof(int form) {
    Frame frame = frame(form);
    state(frame.state == 1);
    frame.proofs++;
    StringBuilder out = new StringBuilder();
    for (Row row : rowsOf(frame)) {
      int place = 0;
      int gap = 0;
      for (char sign : row.asked.toCharArray()) {
        if (sign == ' ') {
          if (!row.gaps.get(gap).isEmpty()) out.append(' ');
          else note("printed without a blank");
          gap++;
        } else {
          Lead lead = row.leads.get(place++);
          out.append(lead.wear >= 12 ? '?' : lead.turned ? '=' : lead.face);
          lead.wear++;
        }
      }
    }
    paper = out.toString();
    return paper.length();
  }

  int unlock(int form) {
    Frame frame = frame(form);
    state(frame.state != 2);
    int count = 0;
    for (Row row : rowsOf(frame)) count += backWithLine(row);
    frame.state = 2;
    note("unlocked");
    return count;
  }

  int inBox(int font, int box) { indexBox(font, box); return box(font, box).size(); }

  int top(int font, int box) {
    indexBox(font, box);
    List<Lead> pile = box(font, box);
    return pile.isEmpty() ? -1 : pile.get(pile.size() - 1).number;
  }

  int inSpaces(int units) { range(store.containsKey(units)); return store.get(units); }

  int sort(int sort, int what) {
    index(in(sort, 0, all.size() - 1));
    range(in(what, 0, 6));
    Lead lead = all.get(sort);
    if (what == 0) return lead.font;
    if (what == 1) return FACES.indexOf(lead.face);
    if (what == 2) return lead.wear;
    if (what == 5) return lead.turned ? 1 : 0;
    if (what == 6) return lead.width();
    if (lead.melted) return what == 3 ? 3 : -1;
    if (heap.contains(lead)) return what == 3 ? 2 : heap.indexOf(lead);
    for (int i = 0; i < rows.size(); i++) if (rows.get(i).leads.contains(lead)) return what == 3 ? 1 : i;
    for (int i = 0; i < 58; i++) if (boxes.get(i).contains(lead)) return what == 3 ? 0 : i % 29;
    throw new AssertionError("a sort is lost");
  }

  int lines() { return rows.size(); }

  int line(int line, int what) {
    Row row = row(line);
    range(in(what, 0, 7));
    int wrong = 0;
    int first = -1;
    for (int i = row.leads.size() - 1; i >= 0; i--) {
      if (row.wrong(i)) {
        wrong++;
        first = i;
      }
    }
    int[] told = {
      row.font, row.leads.size(), row.gapCount(), slack(row), row.form == null ? -1 : row.form.number,
      wrong, first, row.gaps.get(row.gapCount()).stream().mapToInt(u -> u).sum()};
    return told[what];
  }

  int sortAt(int line, int place) {
    Row row = row(line);
    index(in(place, 0, row.leads.size() - 1));
    return row.leads.get(place).number;
  }

  int gap(int line, int gap) {
    Row row = row(line);
    index(in(gap, 0, row.gapCount() - 1));
    return row.gaps.get(gap).stream().mapToInt(u -> u).sum();
  }

  int form(int form, int what) {
    Frame frame = frame(form);
    range(in(what, 0, 2));
    return what == 0 ? frame.state : what == 1 ? rowsOf(frame).size() : frame.proofs;
  }

  char printed(int place) { index(in(place, 0, paper.length() - 1)); return paper.charAt(place); }

  int pie() { return heap.size(); }

  int lead(int font, int box) {
    indexBox(font, box);
    int count = 0;
    for (Lead lead : all) if (lead.is(FACES.charAt(box), font) && !lead.melted) count++;
    return count;
  }

  int ahead(int font) {
    index(in(font, 0, 1));
    List<List<Lead>> then = copyOfBoxes();
    String rest = text;
    for (int count = 0; ; count++) {
      Plan plan = plan(rest, font, measure);
      if (plan == null) return count;
      for (char sign : plan.asked.replace(" ", "").toCharArray()) {
        if (takeFor(sign, font, false, then) == null) return count;
      }
      rest = rest.substring(plan.taken);
    }
  }
}
