import java.util.function.Supplier;

/**
 * Each sentence of the document that names a bound, with a test of its own, and the sentence above it: the last value
 * that is taken and the first that is refused, the thing empty and full. Here: lines that stand and go, forms,
 * proofs, wear, corrections and pie.
 */
public final class BoundsOfFormsTest extends Shops {
  public static void main(String[] args) {
    linesAndForms();
    proofsAndWear();
    corrections();
    end();
  }

  private static void linesAndForms() {
    part = "9";
    numbersOfLines();
    linesSetAnew();
    part = "12";
    stretches();
    fourForms();
    part = "13";
    tightLines();
    formsThatFall();
    liftedAgain();
    part = "15";
    formsPutBack();
  }

  private static void proofsAndWear() {
    part = "14";
    onlySoundOnes();
    facesThatPrint();
    wearThatPrints();
    blanksThatPrint();
    fullProof();
    part = "8, 9, 11, 15, wear";
    worn();
    wornInPie();
  }

  private static void corrections() {
    part = "8";
    placesToMend();
    whatMends();
    whatMendsInCaseOne();
    notTurnedAnyMore();
    filledAnew();
    formNotSound();
    part = "10";
    fouling();
    part = "11";
    sortingPie();
    fullPie();
  }

  // ---- lines and forms

  // "when one goes, the numbers of those behind it are 1 less"
  private static void numbersOfLines() {
    for (int gone : new int[] {0, 5, 11}) {
      LeadCases x = lined(12); // line i has the sort 39 - i
      due(x.putBack(gone), 1);
      due(x.lines(), 11);
      for (int i = 0; i < 11; i++) {
        int sort = 39 - (i < gone ? i : i + 1);
        due(x.sortAt(i, 0), sort);
        due(x.sort(sort, 4), i);
      }
      due(x.sort(39 - gone, 3), LeadCases.BOX);
    }
    for (int line : new int[] {MIN, -1, 3, 12, MAX}) refused(INDEX, Shops::busy, x -> x.putBack(line));
    for (int line : new int[] {-1, 12, MAX}) refused(INDEX, Shops::full, x -> x.putBack(line));
    refused(STATE, Shops::busy, x -> x.putBack(0)); // of a sound form
    refused(STATE, Shops::busy, x -> x.putBack(2)); // of a locked one
    due(busy().putBack(1), 2);
  }

  // "as they are set, at most 12 at a time": lines that are set when others have gone are lines of their own
  private static void linesSetAnew() {
    for (int gone = 0; gone < 3; gone++) {
      LeadCases x = lined(3); // 39, 38, 37
      x.putBack(gone); // so that the next one is made of the same sort
      for (int i = 2; i < 12; i++) due(setLine(x, 0, "a"), i);
      for (int i = 0; i < 12; i++) {
        int sort = i < 2 ? 39 - (i < gone ? i : i + 1) : i == 2 ? 39 - gone : 39 - i;
        due(x.sortAt(i, 0), sort);
        due(x.sort(sort, 4), i);
        due(x.line(i, 4), NONE);
      }
      due(x.lock(11, 11), 0);
      due(x.line(10, 4), NONE);
      due(x.form(0, 1), 1);
    }
    LeadCases y = lined(3); // of a form that is put back, and of one that falls apart
    y.lock(0, 0);
    y.lock(1, 1);
    y.unlock(0);
    y.lift(1);
    for (int i = 1; i < 12; i++) due(setLine(y, 0, "a"), i);
    for (int i = 0; i < 12; i++) {
      due(y.line(i, 4), NONE);
      due(y.sort(y.sortAt(i, 0), 4), i);
    }
    due(y.pie(), 1);
    LeadCases z = new LeadCases(); // nothing is left of one with more sorts and gaps
    z.cast(0, A, 9);
    spaces(z, 9);
    setLine(z, 0, "aa a a");
    z.putBack(0);
    setLine(z, 0, "a a");
    due(z.line(0, 1), 2);
    due(z.line(0, 2), 1);
    due(z.gap(0, 0), 3);
    due(z.line(0, 3), 0);
    due(answer(() -> z.gap(0, 1)), "IndexOutOfBoundsException");
    due(answer(() -> z.sortAt(0, 2)), "IndexOutOfBoundsException");
  }

  // "To lock lines that are free is possible if there is at least one"
  private static void stretches() {
    LeadCases x = lined(12);
    due(x.lock(0, 11), 0);
    due(x.form(0, 1), 12);
    LeadCases y = lined(12);
    due(y.lock(0, 0), 0);
    due(y.lock(11, 11), 1);
    due(y.lock(1, 10), 2);
    due(y.form(0, 1), 1);
    due(y.form(2, 1), 10);
    Supplier<LeadCases> made = () -> {
      LeadCases z = lined(6);
      z.lock(2, 3);
      return z;
    };
    for (int[] at : new int[][] {{2, 3}, {2, 2}, {3, 3}, {1, 2}, {3, 4}, {0, 5}, {1, 4}}) {
      refused(STATE, made, z -> z.lock(at[0], at[1]));
    }
    for (int[] at : new int[][] {{0, 1}, {1, 1}, {4, 4}, {4, 5}}) due(made.get().lock(at[0], at[1]), 1);
    for (int[] at : new int[][] {{-1, 0}, {0, -1}, {6, 6}, {0, 6}, {5, 6}, {6, 5}, {MIN, 0}, {0, MAX}, {MAX, MIN}}) {
      refused(INDEX, made, z -> z.lock(at[0], at[1]));
    }
    for (int[] at : new int[][] {{1, 0}, {5, 4}, {5, 0}}) refused(RANGE, made, z -> z.lock(at[0], at[1]));
  }

  // "forms are numbered from 0, at most 4 ever"
  private static void fourForms() {
    Supplier<LeadCases> made = () -> {
      LeadCases x = lined(5);
      for (int i = 0; i < 4; i++) due(x.lock(i, i), i);
      return x;
    };
    refused(STATE, made, x -> x.lock(4, 4));
    Supplier<LeadCases> gone = () -> { // "ever", so those that are gone count
      LeadCases x = lined(5);
      for (int i = 0; i < 4; i++) {
        due(x.lock(0, 0), i);
        if (i % 2 == 0) x.unlock(i);
        else x.lift(i);
      }
      return x;
    };
    due(gone.get().lines(), 1);
    refused(STATE, gone, x -> x.lock(0, 0));
    for (int form : new int[] {MIN, -1, 3, 4, MAX}) {
      refused(INDEX, Shops::busy, x -> x.lift(form));
      refused(INDEX, Shops::busy, x -> x.proof(form));
      refused(INDEX, Shops::busy, x -> x.unlock(form));
    }
    for (int form : new int[] {-1, 4, MAX}) refused(INDEX, Shops::full, x -> x.lift(form));
  }

  // "if all its lines are tight, it is sound", and "it is tight if that is 0"
  private static void tightLines() {
    LeadCases x = stuffedForm(M, M, M, I);
    due(x.lift(0), 0);
    due(x.form(0, 0), LeadCases.SOUND);
    due(x.lines(), 1);
    for (int[] boxes : new int[][] {{M, M, M, S}, {M, M, S, A}}) { // 1 too many, 1 too few
      LeadCases y = stuffedForm(boxes);
      due(y.lift(0), 4);
      due(y.form(0, 0), LeadCases.BROKEN);
      due(y.lines(), 0);
      due(y.pie(), 4);
      for (int i = 0; i < 4; i++) due(y.sort(3 - i, 4), i); // the first of the line was cast last
    }
  }

  // "otherwise each line of it that is not falls apart ..; the others are free then, and the form is broken"
  private static void formsThatFall() {
    for (int tight = 0; tight < 8; tight++) {
      LeadCases x = new LeadCases();
      x.measure(20);
      x.cast(0, A, 40);
      x.spaces(6, 9);
      int stay = 0;
      for (int i = 0; i < 5; i++) { // lines 1 to 3 are the form
        boolean is = i > 0 && i < 4 && (tight >> (i - 1) & 1) == 1;
        setLine(x, 0, is ? "aaaaa" : "aaa"); // 2 more units are open
        if (is) stay++;
      }
      x.lock(1, 3);
      int spaces = x.inSpaces(6);
      int fallen = stay == 3 ? 0 : 3 * (3 - stay);
      due(x.lift(0), fallen);
      due(x.pie(), fallen);
      due(x.lines(), 2 + stay);
      due(x.inSpaces(6), spaces + fallen / 3);
      due(x.form(0, 0), stay == 3 ? LeadCases.SOUND : LeadCases.BROKEN);
      due(x.form(0, 1), stay == 3 ? 3 : 0);
      for (int i = 1; i <= stay; i++) due(x.line(i, 4), stay == 3 ? 0 : NONE);
      due(x.line(0, 1), 3); // what is not of the form stays
      due(x.line(stay + 1, 1), 3);
    }
  }

  // "if it is broken, or was put back"
  private static void liftedAgain() {
    LeadCases x = stuffedForm(M, M, M, I);
    due(x.lift(0), 0);
    due(x.lift(0), 0); // a sound one may be
    due(x.form(0, 0), LeadCases.SOUND);
    refused(STATE, Shops::busy, y -> y.lift(0)); // broken
    refused(STATE, () -> unlocked(), y -> y.lift(0));
  }

  private static LeadCases unlocked() {
    LeadCases x = stuffedForm(M, M, M, I);
    x.lift(0);
    x.unlock(0);
    return x;
  }

  // "Puts a form back; it is broken then."; "if it is broken"
  private static void formsPutBack() {
    LeadCases x = unlocked();
    due(x.form(0, 0), LeadCases.BROKEN);
    due(x.form(0, 1), 0);
    due(x.lines(), 0);
    due(stuffedForm(M, M, M, S).unlock(0), 4); // one that was not lifted, and is too wide
    due(busy().unlock(1), 1);
    due(busy().unlock(2), 2);
    LeadCases y = full();
    y.unlock(3);
    due(y.lines(), 11);
    due(y.line(2, 4), 2);
    due(y.line(3, 4), NONE);
    refused(STATE, Shops::busy, z -> z.unlock(0));
    refused(STATE, () -> unlocked(), z -> z.unlock(0));
  }

  // ---- proofs and wear

  // "if it is not sound"
  private static void onlySoundOnes() {
    refused(STATE, Shops::busy, x -> x.proof(0)); // broken
    refused(STATE, Shops::busy, x -> x.proof(2)); // locked
    refused(STATE, () -> unlocked(), x -> x.proof(0));
    refused(STATE, () -> stuffedForm(M, M, M, I), x -> x.proof(0)); // tight, but not lifted
    due(busy().proof(1), 1);
  }

  // "one with a wear of 12 or more, turned or not, as ?"; "printed as it was ahead of that"
  private static void wearThatPrints() {
    LeadCases x = new LeadCases();
    x.measure(20);
    x.cast(0, A, 3);
    x.spaces(1, 9);
    type(x, "ab a"); // an a is turned for b
    due(x.set(0, true), 0);
    x.lock(0, 0);
    due(x.lift(0), 0);
    for (int wear = 0; wear < 15; wear++) {
      for (int i = 0; i < 3; i++) due(x.sort(i, 2), wear);
      due(x.proof(0), 4);
      printedDue(x, wear < 12 ? "a= a" : "?? ?");
      due(x.form(0, 2), wear + 1);
    }
  }

  // "A sort prints as its face"
  private static void facesThatPrint() {
    for (int i = 0; i < 58; i++) {
      int font = i / 29;
      int box = i % 29;
      LeadCases x = new LeadCases();
      x.cast(font, box, 1);
      x.spaces(1, 100);
      setLine(x, font, FACES.substring(box, box + 1));
      x.lock(0, 0);
      due(x.lift(0), 0);
      due(x.proof(0), 1);
      due(x.printed(0), FACES.charAt(box));
    }
  }

  // "A gap between words prints as a blank, unless nothing stands in it."
  private static void blanksThatPrint() {
    String[] due = {"m m ai", "m msa", "mmmi", "mmsa"};
    int[][] boxes = {{M, M, A, I}, {M, M, S, A}, {M, M, M, I}, {M, M, S, A}};
    String[] signs = {"i i ii", "i i ii", "i i ii", "iiii"}; // what stands behind the sorts is no blank
    for (int i = 0; i < due.length; i++) {
      LeadCases x = stuffed(boxes[i]);
      x.spaces(1, 9);
      setLine(x, 0, signs[i]);
      x.lock(0, 0);
      due(x.lift(0), 0);
      due(x.proof(0), due[i].length());
      printedDue(x, due[i]);
      int length = due[i].length();
      due(answer(() -> x.printed(length)), "IndexOutOfBoundsException");
    }
  }

  // The longest proof: 300 sorts in 5 lines
  private static void fullProof() {
    LeadCases x = fiveLines(120);
    due(x.lock(0, 4), 0);
    due(x.lift(0), 0);
    due(x.proof(0), 300);
    due(x.printed(0), 'i');
    due(x.printed(299), 'i');
    due(answer(() -> x.printed(300)), "IndexOutOfBoundsException");
    due(x.unlock(0), 300);
    due(x.printed(299), 'i');
    due(x.inBox(0, I), 300);
  }

  /** 300 sorts of i in 5 lines, which took about 320 calls. */
  private static LeadCases fiveLines(int measure) {
    LeadCases x = new LeadCases();
    x.measure(measure);
    for (int i = 0; i < 7; i++) x.cast(0, I, 40);
    due(x.cast(0, I, 20), 300);
    for (int i = 0; i < 5; i++) {
      due(setLine(x, 0, "i".repeat(60)), i);
      due(x.line(i, 1), 60);
    }
    return x;
  }

  // "A sort that has a wear of 12 or more, when it would be put back, is melted instead"
  private static void worn() {
    for (int wear = 10; wear < 15; wear++) {
      boolean stays = wear < 12;
      int kept = stays ? 1 : 0;
      LeadCases x = worn(wear); // unlock
      due(x.unlock(0), 2 * kept);
      wornDue(x, 0, A, wear);
      wornDue(x, 2, M, wear);
      LeadCases y = worn(wear); // mend, then putBack
      due(y.mend(1, 0), 1);
      wornDue(y, 2, M, wear);
      due(y.lift(0), 1); // the b, with 2 units open; the a is free
      due(y.sort(0, 3), LeadCases.LINE); // it is not melted while it stands
      leadDue(y, 0, A, 1);
      due(y.putBack(0), kept);
      wornDue(y, 0, A, wear);
      due(y.inSpaces(6), 4);
      due(y.sortPie(1), 1); // the b has no wear
    }
  }

  private static void wornDue(LeadCases x, int sort, int box, int wear) {
    boolean stays = wear < 12;
    toldDue(x, sort, 0, box, wear, stays ? LeadCases.BOX : LeadCases.MELTED, stays ? box : NONE, 0);
    due(x.inBox(0, box), stays ? 1 : 0);
    due(x.top(0, box), stays ? sort : NONE);
    leadDue(x, 0, box, stays ? 1 : 0);
  }

  // A sort that comes to the pie is not put back: it is melted when the pie is sorted, or stands in a line again.
  private static void wornInPie() {
    for (int wear = 11; wear < 14; wear++) {
      LeadCases x = pieOf(wear);
      toldDue(x, 0, 0, A, wear, LeadCases.PIE, 0, 0);
      leadDue(x, 0, A, 1);
      due(x.sortPie(1), wear < 12 ? 1 : 0);
      wornDue(x, 0, A, wear);
      due(x.pie(), 1);
      LeadCases y = pieOf(wear);
      y.foul(0, M, A);
      setLine(y, 0, "a"); // an m for a, and the a is in the pie
      due(y.mend(0, 0), 0);
      toldDue(y, 0, 0, A, wear, LeadCases.LINE, 0, 0);
      due(y.putBack(0), wear < 12 ? 1 : 0);
      wornDue(y, 0, A, wear);
    }
  }

  /** A shop with pie: a, 0, with so much wear, and b, 2, with none; and with another m, 3, in its box. */
  private static LeadCases pieOf(int wear) {
    LeadCases x = new LeadCases();
    x.measure(20);
    x.cast(0, A, 1); // 0
    x.cast(0, M, 1); // 1
    x.cast(0, B, 1); // 2
    x.spaces(6, 1);
    x.spaces(4, 1);
    x.foul(0, M, B);
    setLine(x, 0, "ab"); // 0 and 1: 10 units, so that it is tight
    x.lock(0, 0);
    due(x.lift(0), 0);
    for (int i = 0; i < wear; i++) x.proof(0);
    due(x.mend(0, 1), 2);
    due(x.lift(0), 2);
    x.cast(0, M, 1);
    return x;
  }

  // ---- mend, foul, sortPie

  // "place: from 0, of its sorts"; "if the place is not wrong"
  private static void placesToMend() {
    Supplier<LeadCases> made = () -> {
      LeadCases x = stuffed(M, I, A); // 2, 1, 0
      setLine(x, 0, "iii"); // two places are wrong
      x.cast(0, I, 2); // 3, 4
      return x;
    };
    due(made.get().mend(0, 0), 4);
    due(made.get().mend(0, 2), 4);
    refused(STATE, made, x -> x.mend(0, 1));
    for (int place : new int[] {MIN, -1, 3, 60, MAX}) refused(INDEX, made, x -> x.mend(0, place));
    for (int line : new int[] {MIN, -1, 1, 12, MAX}) refused(INDEX, made, x -> x.mend(line, 0));
    LeadCases x = made.get();
    due(x.line(0, 5), 2);
    due(x.line(0, 6), 0);
    due(x.mend(0, 0), 4);
    due(x.sortAt(0, 0), 4);
    due(x.line(0, 5), 1);
    due(x.line(0, 6), 2);
    due(x.mend(0, 2), 3);
    due(x.line(0, 5), 0);
    due(x.line(0, 6), NONE);
    due(x.top(0, M), 2);
    due(x.top(0, A), 0);
    due(x.top(0, I), NONE);
  }

  // "if one lies on top of its box; otherwise the one of the pie that has it, with the lowest number; otherwise .."
  private static void whatMends() {
    due(mendable(3, 1).mend(0, 0), 5); // on top, though those of the pie are lower
    due(mendable(0, 1).mend(0, 0), 2);
    due(mendable(3, 0).mend(0, 0), 2); // the box is empty
    due(mendable(3, 2).mend(0, 0), 2); // one is in the box, but not on top
    due(mendable(1, 2).mend(0, 0), 2);
    refused(STATE, () -> mendable(0, 0), x -> x.mend(0, 0));
    refused(STATE, () -> mendable(0, 2), x -> x.mend(0, 0));
    LeadCases x = mendable(3, 0);
    x.mend(0, 0);
    due(x.pie(), 2);
    due(x.sort(4, 4), 0);
    due(x.sort(3, 4), 1);
    due(x.sort(2, 3), LeadCases.LINE);
    due(x.top(0, M), 1);
    LeadCases y = mendable(2, 0); // pie of two pieces: the lowest number is not in the last place
    due(y.mend(0, 0), 2);
    y.cast(0, A, 1); // 4
    setLine(y, 0, "a");
    y.lock(1, 1);
    due(y.lift(1), 1);
    y.foul(0, M, A); // 1 stands for a again
    setLine(y, 0, "a");
    due(y.mend(1, 0), 3); // of 3 and 4
    due(y.sort(4, 4), 0);
    refused(STATE, BoundsOfFormsTest::otherCaseInPie, z -> z.mend(0, 0));
  }

  /** An m stands for an a of the case 0, and an a of the case 1 is in the pie. */
  private static LeadCases otherCaseInPie() {
    LeadCases x = new LeadCases();
    x.cast(1, A, 2);
    x.cast(0, M, 1);
    setLine(x, 1, "a");
    x.lock(0, 0);
    x.lift(0);
    x.foul(0, M, A);
    setLine(x, 0, "a");
    return x;
  }

  // The same in the other case, in a line that is not the first one, and for another face
  private static void whatMendsInCaseOne() {
    Supplier<LeadCases> made = () -> {
      LeadCases x = new LeadCases();
      x.cast(1, S, 2); // 0, 1
      x.cast(1, R, 2); // 2, 3
      x.cast(0, S, 2); // 4, 5
      x.cast(1, A, 1); // 6
      setLine(x, 0, "ss");
      setLine(x, 1, "rs"); // 3, 1
      x.lock(0, 1);
      x.lift(0); // pie: 5, 4, 3, 1
      x.foul(1, S, B); // 0
      x.foul(1, R, S); // 2 stands for s
      setLine(x, 1, "a");
      setLine(x, 1, "s");
      return x;
    };
    LeadCases x = made.get();
    due(x.pie(), 4);
    due(x.sortAt(1, 0), 2);
    due(x.mend(1, 0), 1);
    toldDue(x, 1, 1, S, 0, LeadCases.LINE, 1, 0);
    toldDue(x, 2, 1, R, 0, LeadCases.BOX, R, 0);
    due(x.pie(), 3);
    LeadCases y = made.get();
    y.foul(1, B, S);
    due(y.mend(1, 0), 0);
    toldDue(y, 0, 1, S, 0, LeadCases.LINE, 1, 0);
    due(y.pie(), 4);
  }

  // "is put into the box of its own face, not turned"; "its sorts come to the pie, in order, not turned"
  private static void notTurnedAnyMore() {
    Supplier<LeadCases> made = () -> {
      LeadCases x = new LeadCases();
      x.cast(0, C, 2); // 0, 1
      type(x, "ab");
      due(x.set(0, true), 0); // 1 and 0, both turned
      due(x.sort(0, 5) + x.sort(1, 5), 2);
      return x;
    };
    LeadCases x = made.get();
    x.putBack(0);
    for (int sort = 0; sort < 2; sort++) toldDue(x, sort, 0, C, 0, LeadCases.BOX, C, 0);
    due(x.top(0, C), 1);
    LeadCases y = made.get();
    y.lock(0, 0);
    y.unlock(0);
    for (int sort = 0; sort < 2; sort++) toldDue(y, sort, 0, C, 0, LeadCases.BOX, C, 0);
    LeadCases z = made.get();
    z.lock(0, 0);
    z.lift(0);
    for (int sort = 0; sort < 2; sort++) toldDue(z, sort, 0, C, 0, LeadCases.PIE, 1 - sort, 0);
    LeadCases u = made.get();
    u.cast(0, B, 1); // 2
    due(u.mend(0, 1), 2);
    toldDue(u, 0, 0, C, 0, LeadCases.BOX, C, 0);
    toldDue(u, 1, 0, C, 0, LeadCases.LINE, 0, 1); // the other one stands as it did
    due(u.line(0, 5), 1);
  }

  // "the line is filled anew, as a last line if it was set as that, all its spaces having come back ahead of that"
  private static void filledAnew() {
    LeadCases x = stuffed(M, M, S);
    gapsDue(x, "i i i", 0, 3, 2); // a last line
    x.cast(0, I, 1);
    x.mend(0, 0); // 9 units now
    due(x.gap(0, 0), 3);
    due(x.gap(0, 1), 3);
    due(x.line(0, 7), 3);
    LeadCases y = stuffed(M, M, S);
    gapsDue(y, "i i i m", 0, 3, 2);
    y.clear(); // it does not become a last line by that
    y.cast(0, I, 1);
    y.mend(0, 0);
    due(y.gap(0, 0), 5);
    due(y.gap(0, 1), 4);
    due(y.line(0, 7), 0);
    LeadCases z = worn(0); // 6, 6 and 2 come back, and are all there is
    z.mend(1, 0);
    due(z.line(1, 7), 14);
    due(z.line(1, 3), 2);
    due(z.inSpaces(6) + z.inSpaces(4) + z.inSpaces(2), 0);
    LeadCases u = stuffed(M, M, M, M); // from a rest below 0 to one above it
    gapsDue(u, "i i ii", 0, 0, 0);
    u.cast(0, I, 1);
    u.mend(0, 3);
    due(u.line(0, 3), 0);
    u.cast(0, I, 1);
    u.mend(0, 2);
    due(u.gap(0, 0), 2);
    due(u.gap(0, 1), 2);
    LeadCases v = stuffed(M, M, A); // and to one below it
    v.cast(0, I, 1);
    v.cast(0, M, 1);
    v.foul(0, M, C);
    v.foul(0, I, M); // an i for m
    gapsDue(v, "mii i", 0, 2);
    v.foul(0, C, M);
    v.mend(0, 0);
    due(v.line(0, 3), -2);
    due(v.gap(0, 0), 0);
    due(v.inSpaces(1), 100);
  }

  // "The form of the line, if it has one, is not sound then, until it is lifted anew."
  private static void formNotSound() {
    LeadCases x = worn(1);
    due(x.form(0, 0), LeadCases.SOUND);
    x.spaces(2, 1);
    x.mend(1, 0); // tight again, but not lifted
    due(x.line(1, 3), 0);
    due(x.form(0, 0), LeadCases.LOCKED);
    due(x.line(0, 4), 0);
    due(x.line(1, 4), 0);
    due(answer(() -> x.proof(0)), "IllegalStateException");
    due(x.form(0, 2), 1);
    due(x.lift(0), 0);
    due(x.form(0, 0), LeadCases.SOUND);
    due(x.proof(0), 2);
    printedDue(x, "ab");
    LeadCases y = stuffedForm(M, M, M, S); // one that was not lifted yet
    y.cast(0, I, 1);
    y.mend(0, 3);
    due(y.form(0, 0), LeadCases.LOCKED);
    due(y.lift(0), 0);
    LeadCases z = busy(); // a free line stays free, and other forms stay as they are
    z.foul(0, M, B);
    z.type('b');
    z.clear();
    setLine(z, 0, "b");
    due(z.mend(3, 0), 7);
    due(z.line(3, 4), NONE);
    due(z.form(1, 0), LeadCases.SOUND);
  }

  // "another box"; "if both are the same"; "if the box is empty"
  private static void fouling() {
    due(busy().foul(0, A, HYPHEN), 3);
    due(busy().foul(1, A, HYPHEN), 11);
    refused(RANGE, Shops::busy, x -> x.foul(0, A, A));
    refused(RANGE, Shops::busy, x -> x.foul(1, HYPHEN, HYPHEN));
    refused(STATE, Shops::busy, x -> x.foul(0, C, A));
    refused(STATE, Shops::busy, x -> x.foul(1, HYPHEN, A));
    LeadCases x = busy();
    due(x.foul(1, A, B), 11);
    due(answer(() -> x.foul(1, A, B)), "IllegalStateException");
    due(x.foul(1, B, A), 11);
    due(x.top(1, A), 11);
  }

  // "1 to 300: how many at most"
  private static void sortingPie() {
    due(new LeadCases().sortPie(1), 0);
    due(new LeadCases().sortPie(300), 0);
    due(busy().sortPie(1), 1);
    due(busy().sortPie(300), 1);
    LeadCases x = busy();
    x.sortPie(2);
    due(x.pie(), 0);
    due(x.top(0, A), 5);
    for (int number : new int[] {MIN, -1, 0, 301, MAX}) {
      refused(RANGE, LeadCases::new, y -> y.sortPie(number));
      refused(RANGE, Shops::busy, y -> y.sortPie(number));
    }
    LeadCases y = mendable(3, 0); // 4, 3, 2
    due(y.sortPie(2), 2);
    due(y.top(0, A), 3);
    due(y.pie(), 1);
    due(y.sort(2, 4), 0);
  }

  // All sorts that can be are in the pie.
  private static void fullPie() {
    LeadCases x = fiveLines(200);
    x.lock(0, 4);
    due(x.lift(0), 300);
    due(x.pie(), 300);
    due(x.sort(299, 4), 0);
    due(x.sort(0, 4), 299);
    leadDue(x, 0, I, 300);
    due(x.sortPie(299), 299);
    due(x.pie(), 1);
    due(x.sort(0, 4), 0);
    due(x.sortPie(300), 1);
    due(x.inBox(0, I), 300);
    due(x.top(0, I), 0);
    LeadCases y = fiveLines(200);
    y.lock(0, 4);
    y.lift(0);
    due(y.sortPie(300), 300);
    due(y.pie(), 0);
  }
}
