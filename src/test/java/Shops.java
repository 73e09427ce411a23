import java.util.function.Consumer;
import java.util.function.Supplier;

/** Shops for the tests of bounds, and what is due where a call is refused. */
class Shops extends Checks {
  static final int MIN = Integer.MIN_VALUE, MAX = Integer.MAX_VALUE;
  static final int NONE = LeadCases.NONE;
  static final String FACES = "abcdefghijklmnopqrstuvwxyz.,-";
  static final int A = 0, B = 1, C = 2, D = 3, I = 8, M = 12, R = 17, S = 18, HYPHEN = 28;

  /** A shop with something of everything: pie, a wrong line, forms of each kind, a proof, spaces, a text. */
  static LeadCases busy() {
    LeadCases x = new LeadCases();
    x.measure(20);
    x.cast(0, A, 6); // 0 to 5
    x.cast(0, B, 3); // 6 to 8
    x.cast(0, M, 2); // 9, 10
    x.cast(1, A, 3); // 11 to 13
    setLine(x, 0, "a"); // 5, and no spaces
    x.lock(0, 0);
    x.lift(0); // 5 comes to the pie
    spaces(x, 10);
    x.foul(0, M, A); // 10 on top of a
    setLine(x, 0, "a"); // 10, wrong
    setLine(x, 0, "ab"); // 4, 8
    setLine(x, 1, "a a"); // 13, 12
    x.lock(0, 0);
    x.lift(1);
    x.proof(1); // m
    x.lock(2, 2);
    type(x, "ab a");
    return x;
  }

  /** A shop with 300 sorts, 12 lines of which the first 4 are a form each, 1000 spaces of 6 units, 60 signs. */
  static LeadCases full() {
    LeadCases x = cast(280);
    x.cast(1, A, 20);
    for (int i = 0; i < 12; i++) setLine(x, 0, "a");
    for (int i = 0; i < 4; i++) x.lock(i, i);
    for (int i = 0; i < 10; i++) x.spaces(6, 100);
    type(x, "ab ".repeat(20));
    return x;
  }

  /** A shop with so many sorts, 40 of each face. */
  static LeadCases cast(int number) {
    LeadCases x = new LeadCases();
    for (int i = 0; i * 40 < number; i++) x.cast(0, i, Math.min(40, number - 40 * i));
    return x;
  }

  /** A shop with many sorts of few faces. */
  static LeadCases ample(int measure) {
    LeadCases x = new LeadCases();
    x.measure(measure);
    x.cast(0, A, 40);
    x.cast(0, A, 20);
    x.cast(0, I, 40);
    x.cast(0, I, 20);
    x.cast(1, A, 40);
    for (int font = 0; font < 2; font++) {
      for (int box : new int[] {M, S, HYPHEN}) x.cast(font, box, 12);
    }
    return x;
  }

  /** A shop of the least measure in which the box of i gives sorts of these boxes, in this order. */
  static LeadCases stuffed(int... boxes) {
    LeadCases x = new LeadCases();
    x.measure(20);
    for (int k = boxes.length - 1; k >= 0; k--) {
      x.cast(0, boxes[k], 1);
      if (boxes[k] != I) x.foul(0, boxes[k], I);
    }
    return x;
  }

  /** Like stuffed, with a line of them that is not filled, and is the form 0. */
  static LeadCases stuffedForm(int... boxes) {
    LeadCases x = stuffed(boxes);
    setLine(x, 0, "i".repeat(boxes.length));
    x.lock(0, 0);
    return x;
  }

  /** A form of a, 0, and of m, 2, that stands for b, 1, each a tight line; so many proofs were pulled of it. */
  static LeadCases worn(int proofs) {
    LeadCases x = new LeadCases();
    x.measure(20);
    x.cast(0, A, 1);
    x.cast(0, B, 1);
    x.cast(0, M, 1);
    x.spaces(6, 4);
    x.spaces(4, 1);
    x.spaces(2, 1);
    x.foul(0, M, B);
    setLine(x, 0, "a"); // 6 and 6 and 4
    setLine(x, 0, "b"); // 6 and 6 and 2
    x.lock(0, 1);
    x.lift(0);
    for (int i = 0; i < proofs; i++) x.proof(0);
    return x;
  }

  /** A shop with so many lines of an a each. */
  static LeadCases lined(int lines) {
    LeadCases x = new LeadCases();
    x.cast(0, A, 40);
    for (int i = 0; i < lines; i++) setLine(x, 0, "a");
    return x;
  }

  /**
   * A line in which an m, 1, stands for a; the pie has so many sorts of a, each with a lower number than the one
   * ahead of it and the last one 2; in the box of a is nothing, or an a, or an a under an m.
   */
  static LeadCases mendable(int inPie, int inBox) {
    LeadCases x = new LeadCases();
    x.cast(0, M, 2); // 0, 1
    if (inPie > 0) {
      x.cast(0, A, inPie);
      setLine(x, 0, "a".repeat(inPie));
      x.lock(0, 0);
      x.lift(0);
    }
    x.foul(0, M, A);
    setLine(x, 0, "a");
    if (inBox > 0) x.cast(0, A, 1);
    if (inBox > 1) x.foul(0, M, A);
    return x;
  }

  /** Sets a line of a shop and looks at what stands behind the sorts and in the gaps. */
  static void gapsDue(LeadCases x, String signs, int behind, int... gaps) {
    x.spaces(1, 100);
    type(x, signs);
    due(x.set(0, false), 0);
    due(x.line(0, 2), gaps.length);
    due(x.line(0, 7), behind);
    int units = behind;
    for (int i = 0; i < gaps.length; i++) {
      due(x.gap(0, i), gaps[i]);
      units += gaps[i];
    }
    due(x.inSpaces(1), 100 - units);
  }

  /** "A call that throws an exception changes nothing": asked of new shops, part by part. */
  static void refused(Class<?> due, Supplier<LeadCases> made, Consumer<LeadCases> call) {
    sameBehind(made, x -> {
      Class<?> thrown = null;
      try {
        call.accept(x);
      } catch (RuntimeException e) {
        thrown = e.getClass();
      }
      checks++;
      if (thrown != due) report("threw " + thrown + ", due is " + due);
    });
  }

  /** All that the calls of a shop show is the same behind the call as without it. */
  static void sameBehind(Supplier<LeadCases> made, Consumer<LeadCases> call) {
    for (int k = 0; k < Shown.PARTS; k++) {
      LeadCases called = made.get();
      call.accept(called);
      due(Shown.part(called, k), Shown.part(made.get(), k));
    }
  }
}
