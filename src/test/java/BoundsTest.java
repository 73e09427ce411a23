import java.util.function.Supplier;

/**
 * Each sentence of the document that names a bound, with a test of its own, and the sentence above it: the last value
 * that is taken and the first that is refused, the thing empty and full. Here: what is cast and typed, what
 * is asked, and which exception comes first.
 */
public final class BoundsTest extends Shops {
  public static void main(String[] args) {
    terms();
    castsAndTexts();
    questions();
    firstExceptions();
    end();
  }

  private static void terms() {
    part = "1, terms";
    newShop();
    manyCalls();
    casesAndBoxes();
    facesOfBoxes();
    widthsOfFaces();
    piles();
  }

  private static void castsAndTexts() {
    part = "2";
    castNumbers();
    castEver();
    castEverWithMelted();
    part = "3, 18";
    unitsOfSpaces();
    numbersOfSpaces();
    fullBoxOfSpaces();
    spacesThatComeBack();
    part = "4, 5";
    signsThatAreTaken();
    sixtySigns();
    clearing();
    part = "6";
    measures();
    measuresWithLines();
  }

  private static void questions() {
    part = "16, 17";
    boxesEmptyAndFull();
    part = "19";
    sortsThatAre();
    part = "21 to 23";
    linesThatAre();
    part = "24, 25";
    formsThatAre();
    printedSigns();
    part = "27, 28";
    leadOfFaces();
    part = "29";
    ahead();
    aheadOfManyLines();
  }

  private static void firstExceptions() {
    part = "exceptions";
    firstOfCast();
    firstOfOthers();
    firstOfForms();
    firstOfQuestions();
  }

  // ---- terms

  // "Makes a shop without sorts, spaces and lines; the text is empty."
  private static void newShop() {
    LeadCases x = new LeadCases();
    for (int i = 0; i < 58; i++) {
      due(x.inBox(i / 29, i % 29), 0);
      due(x.top(i / 29, i % 29), NONE);
      leadDue(x, i / 29, i % 29, 0);
    }
    x = new LeadCases();
    for (int units : new int[] {1, 2, 3, 4, 6}) due(x.inSpaces(units), 0);
    due(x.lines(), 0);
    due(x.pie(), 0);
    due(x.ahead(0), 0);
    due(x.ahead(1), 0);
    due(x.sortPie(300), 0);
    due(x.clear(), 0);
    due(x.measure(20), 60);
    refused(INDEX, LeadCases::new, y -> y.sort(0, 0));
    refused(INDEX, LeadCases::new, y -> y.line(0, 0));
    refused(INDEX, LeadCases::new, y -> y.sortAt(0, 0));
    refused(INDEX, LeadCases::new, y -> y.gap(0, 0));
    refused(INDEX, LeadCases::new, y -> y.form(0, 0));
    refused(INDEX, LeadCases::new, y -> y.printed(0));
    refused(INDEX, LeadCases::new, y -> y.mend(0, 0));
    refused(INDEX, LeadCases::new, y -> y.putBack(0));
    refused(INDEX, LeadCases::new, y -> y.lock(0, 0));
    refused(INDEX, LeadCases::new, y -> y.lift(0));
    refused(INDEX, LeadCases::new, y -> y.proof(0));
    refused(INDEX, LeadCases::new, y -> y.unlock(0));
    refused(STATE, LeadCases::new, y -> y.set(0, true));
    refused(STATE, LeadCases::new, y -> y.foul(0, A, B));
  }

  // "An object is used for at most 512 calls after it has been made"
  private static void manyCalls() {
    LeadCases x = new LeadCases();
    x.cast(0, A, 1);
    for (int i = 0; i < 170; i++) {
      due(x.type('a'), 1);
      due(x.set(0, false), 0);
      due(x.putBack(0), 1);
    }
    due(x.top(0, A), 0); // the 512th call
  }

  // "There are the cases 0 and 1, each with the boxes 0 to 28"
  private static void casesAndBoxes() {
    for (int font = 0; font < 2; font++) {
      for (int box : new int[] {0, 28}) {
        LeadCases x = new LeadCases();
        due(x.cast(font, box, 1), 1);
        due(x.inBox(font, box), 1);
        due(x.top(font, box), 0);
        leadDue(x, font, box, 1);
        due(x.foul(font, box, 28 - box), 0);
        due(x.top(font, 28 - box), 0);
        due(x.top(font, box), NONE);
        due(x.inBox(1 - font, box) + x.inBox(1 - font, 28 - box), 0);
        leadDue(x, 1 - font, box, 0);
      }
    }
    // With the wrong case a number of all boxes together could still be one that is.
    int[][] outside = {
      {-1, 0}, {-1, 28}, {-1, 29}, {2, 0}, {2, 28}, {2, -29}, {MIN, 0}, {MAX, 0},
      {0, -1}, {0, 29}, {1, -1}, {1, 29}, {0, MIN}, {0, MAX}, {1, MIN}, {1, MAX}};
    for (int[] at : outside) {
      refused(INDEX, Shops::busy, x -> x.cast(at[0], at[1], 1));
      refused(INDEX, Shops::busy, x -> x.foul(at[0], at[1], 2));
      refused(INDEX, Shops::busy, x -> x.foul(at[0], 0, at[1]));
      refused(INDEX, Shops::busy, x -> x.inBox(at[0], at[1]));
      refused(INDEX, Shops::busy, x -> x.top(at[0], at[1]));
      refused(INDEX, Shops::busy, x -> x.lead(at[0], at[1]));
      refused(INDEX, Shops::busy, x -> x.leadAnew(at[0], at[1]));
    }
    for (int font : new int[] {-1, 2, MIN, MAX}) {
      refused(INDEX, Shops::busy, x -> x.set(font, false));
      refused(INDEX, Shops::busy, x -> x.set(font, true));
      refused(INDEX, Shops::busy, x -> x.ahead(font));
    }
  }

  // "0 to 25 for the letters a to z, 26 for the point, 27 for the comma, 28 for the hyphen"
  // "Returns its number; -10 less the box in which a sort is missing, if it is not set."
  private static void facesOfBoxes() {
    for (int i = 0; i < 58; i++) {
      int font = i / 29;
      int box = i % 29;
      LeadCases x = new LeadCases();
      x.type(FACES.charAt(box));
      due(x.set(font, false), -10 - box);
      due(x.set(font, true), -10 - box);
      due(x.ahead(font), 0);
      x.cast(font, box, 1);
      due(x.ahead(font), 1);
      due(x.set(font, false), 0);
      due(x.sortAt(0, 0), 0);
      due(x.line(0, 5), 0);
    }
  }

  // "Its width is that of its face: 4 units for .., 3 for .., 2 for .., 6 for ..; in the case 1 .. 1 unit more."
  private static void widthsOfFaces() {
    String[] ofWidth = {"", "", "ijl.,-", "rstf", "abcdeghknopquvxyz", "", "mw"};
    int faces = 0;
    for (int width = 0; width < ofWidth.length; width++) {
      for (char face : ofWidth[width].toCharArray()) {
        faces++;
        for (int font = 0; font < 2; font++) {
          LeadCases x = new LeadCases();
          x.cast(font, FACES.indexOf(face), 1);
          due(x.sort(0, 6), width + font);
          setLine(x, font, String.valueOf(face));
          due(x.line(0, 3), 60 - width - font);
        }
      }
    }
    due(faces, 29);
  }

  // "A box is a pile: what comes into it lies on top, and what is taken is the one on top."
  private static void piles() {
    LeadCases x = new LeadCases();
    x.cast(0, A, 2); // 0, 1
    x.cast(0, B, 1); // 2
    due(x.top(0, A), 1);
    x.foul(0, B, A);
    due(x.top(0, A), 2);
    due(x.inBox(0, A), 3);
    setLine(x, 0, "aa");
    due(x.sortAt(0, 0), 2); // "who takes one does not look"
    due(x.sortAt(0, 1), 1);
    due(x.foul(0, A, B), 0);
    due(x.top(0, A), NONE);
    due(x.inBox(0, A), 0);
  }

  // ---- cast, spaces, type, clear, measure

  // "number: 1 to 40"
  private static void castNumbers() {
    due(new LeadCases().cast(0, A, 1), 1);
    LeadCases x = new LeadCases();
    due(x.cast(0, A, 40), 40);
    due(x.inBox(0, A), 40);
    due(x.top(0, A), 39);
    for (int number : new int[] {MIN, -1, 0, 41, MAX}) {
      refused(RANGE, LeadCases::new, y -> y.cast(0, A, number));
      refused(RANGE, Shops::busy, y -> y.cast(1, HYPHEN, number));
    }
  }

  // "numbered from 0, at most 300 ever"
  private static void castEver() {
    due(cast(299).cast(1, HYPHEN, 1), 300);
    due(cast(260).cast(1, HYPHEN, 40), 300);
    due(cast(261).cast(1, HYPHEN, 39), 300);
    refused(STATE, () -> cast(300), x -> x.cast(0, A, 1));
    refused(STATE, () -> cast(299), x -> x.cast(1, HYPHEN, 2));
    refused(STATE, () -> cast(261), x -> x.cast(1, HYPHEN, 40));
    refused(STATE, Shops::full, x -> x.cast(0, A, 1));
    LeadCases x = cast(299);
    x.cast(1, HYPHEN, 1);
    due(x.top(1, HYPHEN), 299);
    due(x.sort(299, 1), HYPHEN);
    due(x.sort(0, 1), A);
    due(x.sort(0, 2) + x.sort(299, 2), 0); // "its wear, 0 at first"
  }

  // "at most 300 ever", so those that were melted count
  private static void castEverWithMelted() {
    Supplier<LeadCases> made = () -> {
      LeadCases x = worn(12); // 3 sorts
      x.unlock(0); // 2 of them are melted
      for (int i = 0; i < 7; i++) x.cast(1, i, 40);
      x.cast(1, 7, 16);
      return x;
    };
    refused(STATE, made, x -> x.cast(0, A, 2));
    due(made.get().cast(0, A, 1), 300);
  }

  // "boxes of spaces of 1, 2, 3, 4 and 6 units"
  private static void unitsOfSpaces() {
    LeadCases x = new LeadCases();
    for (int units : new int[] {1, 2, 3, 4, 6}) {
      due(x.spaces(units, units), units);
      due(x.inSpaces(units), units);
    }
    for (int units : new int[] {MIN, -6, -1, 0, 5, 7, 8, MAX}) {
      refused(RANGE, Shops::busy, y -> y.spaces(units, 1));
      refused(RANGE, Shops::busy, y -> y.inSpaces(units));
    }
  }

  // "number: 1 to 100"
  private static void numbersOfSpaces() {
    due(new LeadCases().spaces(1, 1), 1);
    due(new LeadCases().spaces(6, 100), 100);
    for (int number : new int[] {MIN, -1, 0, 101, MAX}) {
      refused(RANGE, LeadCases::new, x -> x.spaces(1, number));
      refused(RANGE, Shops::busy, x -> x.spaces(6, number));
    }
  }

  // "if there would be more than 1000 in it"
  private static void fullBoxOfSpaces() {
    for (int u : new int[] {1, 2, 3, 4, 6}) {
      int units = u;
      due(withSpaces(units, 900).spaces(units, 100), 1000);
      due(withSpaces(units, 901).spaces(units, 99), 1000);
      due(withSpaces(units, 999).spaces(units, 1), 1000);
      due(withSpaces(units, 1000).inSpaces(units), 1000);
      due(withSpaces(units, 1000).spaces(units == 1 ? 2 : 1, 100), 100);
      refused(STATE, () -> withSpaces(units, 901), x -> x.spaces(units, 100));
      refused(STATE, () -> withSpaces(units, 999), x -> x.spaces(units, 2));
      refused(STATE, () -> withSpaces(units, 1000), x -> x.spaces(units, 1));
    }
    refused(STATE, Shops::full, x -> x.spaces(6, 1));
  }

  private static LeadCases withSpaces(int units, int number) {
    LeadCases x = new LeadCases();
    for (int left = number; left > 0; left -= 100) x.spaces(units, Math.min(100, left));
    return x;
  }

  // "the spaces come back", into a box with 1000 too
  private static void spacesThatComeBack() {
    Supplier<LeadCases> made = () -> {
      LeadCases x = withSpaces(6, 1000);
      x.cast(0, A, 1);
      x.measure(22);
      setLine(x, 0, "a"); // 18 units, so 3 spaces
      x.spaces(6, 3);
      return x;
    };
    refused(STATE, made, x -> x.spaces(6, 1));
    LeadCases x = made.get();
    due(x.inSpaces(6), 1000);
    due(x.putBack(0), 1);
    due(x.inSpaces(6), 1003);
    Supplier<LeadCases> over = () -> {
      LeadCases y = made.get();
      y.putBack(0);
      return y;
    };
    refused(STATE, over, y -> y.spaces(6, 1));
  }

  // "small letters, blanks, points, commas, hyphens"; "if sign is none of those"
  private static void signsThatAreTaken() {
    LeadCases x = new LeadCases();
    int taken = 0;
    for (int i = 0; i <= Character.MAX_VALUE; i++) {
      char sign = (char) i;
      if (i % 256 == 0) {
        x = new LeadCases();
        taken = 0;
      }
      LeadCases asked = x;
      String answer = answer(() -> asked.type(sign));
      boolean right = sign == ' ' || FACES.indexOf(sign) >= 0;
      checks++;
      if (!answer.equals(right ? "" + ++taken : "IllegalArgumentException")) report("sign " + i + ": " + answer);
    }
    for (char sign : new char[] {0, 31, 33, '+', '/', '0', 'A', 'Z', '`', '{', 128, 160, 255, 256 + 'a', 65535}) {
      refused(RANGE, Shops::busy, y -> y.type(sign));
    }
  }

  // "A text is up to 60 signs"; "if it has 60"
  private static void sixtySigns() {
    LeadCases x = new LeadCases();
    x.cast(0, A, 1);
    for (int count = 1; count <= 60; count++) due(x.type(count == 3 ? 'a' : ' '), count);
    for (char sign : new char[] {' ', 'a', 'z', '.', ',', '-'}) {
      refused(STATE, Shops::full, y -> y.type(sign));
    }
    due(x.set(0, false), 0); // takes off 3 of them
    due(x.type('a'), 58);
    due(x.type('a'), 59);
    due(x.type('a'), 60);
    due(answer(() -> x.type('a')), "IllegalStateException");
    due(x.clear(), 60);
    due(x.type('a'), 1);
  }

  // "Empties the text; returns how many signs it had."
  private static void clearing() {
    LeadCases x = full();
    due(x.clear(), 60);
    due(x.clear(), 0);
    due(x.lines(), 12);
    LeadCases y = new LeadCases();
    y.cast(0, A, 2);
    type(y, "a a");
    y.clear();
    due(y.ahead(0), 0);
    due(answer(() -> y.set(0, false)), "IllegalStateException");
    type(y, "a"); // nothing of the text before is behind it
    due(y.set(0, false), 0);
    due(y.line(0, 1), 1);
    due(y.clear(), 0);
  }

  // "The measure is 20 to 200 units, 60 at first"
  private static void measures() {
    LeadCases x = new LeadCases();
    due(x.measure(20), 60);
    due(x.measure(200), 20);
    due(x.measure(200), 200);
    due(x.measure(21), 200);
    due(x.measure(199), 21);
    for (int units : new int[] {MIN, -20, 0, 19, 201, MAX}) {
      refused(RANGE, LeadCases::new, y -> y.measure(units));
      refused(RANGE, Shops::busy, y -> y.measure(units));
    }
    LeadCases z = new LeadCases(); // sorts, a text, spaces and pie do not hinder
    z.cast(0, A, 1);
    z.spaces(1, 1);
    setLine(z, 0, "a");
    z.lock(0, 0);
    z.lift(0);
    z.type('a');
    due(z.pie(), 1);
    due(z.measure(20), 60);
  }

  // "it is told when there are no lines"; "if there are lines"
  private static void measuresWithLines() {
    refused(STATE, () -> lined(1), x -> x.measure(60));
    refused(STATE, Shops::busy, x -> x.measure(20));
    refused(STATE, Shops::full, x -> x.measure(200));
    LeadCases x = lined(1);
    x.putBack(0);
    due(x.measure(20), 60);
    LeadCases y = lined(2);
    y.lock(0, 1);
    y.unlock(0);
    due(y.measure(200), 60);
    LeadCases z = lined(1);
    z.lock(0, 0);
    z.lift(0);
    due(z.measure(30), 60);
  }

  // ---- what is asked

  // "NONE if it is empty"
  private static void boxesEmptyAndFull() {
    LeadCases x = new LeadCases();
    for (int i = 0; i < 7; i++) x.cast(1, HYPHEN, 40);
    x.cast(1, HYPHEN, 20);
    due(x.inBox(1, HYPHEN), 300);
    due(x.top(1, HYPHEN), 299);
    leadDue(x, 1, HYPHEN, 300);
    due(x.foul(1, HYPHEN, A), 299);
    due(x.inBox(1, HYPHEN), 299);
    due(x.top(1, HYPHEN), 298);
    due(x.inBox(1, A), 1);
    due(x.top(1, A), 299);
    due(x.foul(1, A, B), 299);
    due(x.inBox(1, A), 0);
    due(x.top(1, A), NONE);
  }

  // "what: 0 .. 6 its width"; "if there is no such sort"
  private static void sortsThatAre() {
    LeadCases x = busy();
    toldDue(x, 3, 0, A, 0, LeadCases.BOX, A, 0, 4);
    toldDue(x, 5, 0, A, 0, LeadCases.PIE, 0, 0, 4);
    toldDue(x, 10, 0, M, 1, LeadCases.LINE, 0, 0, 6);
    toldDue(x, 13, 1, A, 0, LeadCases.LINE, 2, 0, 5);
    x.foul(0, A, HYPHEN);
    toldDue(x, 3, 0, A, 0, LeadCases.BOX, HYPHEN, 0, 4);
    for (int sort : new int[] {MIN, -1, 14, 300, MAX}) refused(INDEX, Shops::busy, y -> y.sort(sort, 0));
    for (int sort : new int[] {-1, 300, MAX}) refused(INDEX, Shops::full, y -> y.sort(sort, 0));
    for (int what : new int[] {MIN, -1, 7, MAX}) {
      refused(RANGE, Shops::busy, y -> y.sort(0, what));
      refused(RANGE, Shops::busy, y -> y.sort(13, what));
    }
  }

  // "what: 0 its case, .. 7 how many units stand behind the sorts"; "if there is no such line or place", ".. or gap"
  private static void linesThatAre() {
    int[][] due = {{0, 1, 0, 0, 1, 1, 0, 14}, {0, 2, 0, 0, NONE, 0, NONE, 12}, {1, 2, 1, 0, 2, 0, NONE, 7}};
    LeadCases x = busy();
    due(x.lines(), 3);
    for (int line = 0; line < 3; line++) {
      for (int what = 0; what < 8; what++) due(x.line(line, what), due[line][what]);
    }
    due(x.sortAt(2, 0), 13);
    due(x.sortAt(2, 1), 12);
    due(x.gap(2, 0), 3);
    for (int line : new int[] {MIN, -1, 3, 12, MAX}) {
      refused(INDEX, Shops::busy, y -> y.line(line, 0));
      refused(INDEX, Shops::busy, y -> y.sortAt(line, 0));
      refused(INDEX, Shops::busy, y -> y.gap(line, 0));
    }
    for (int line : new int[] {-1, 12, MAX}) {
      refused(INDEX, Shops::full, y -> y.line(line, 0));
      refused(INDEX, Shops::full, y -> y.sortAt(line, 0));
      refused(INDEX, Shops::full, y -> y.gap(line, 0));
    }
    for (int what : new int[] {MIN, -1, 8, MAX}) refused(RANGE, Shops::busy, y -> y.line(2, what));
    for (int place : new int[] {MIN, -1, 2, 3, 60, MAX}) refused(INDEX, Shops::busy, y -> y.sortAt(2, place));
    for (int gap : new int[] {MIN, -1, 1, 2, 60, MAX}) refused(INDEX, Shops::busy, y -> y.gap(2, gap));
    for (int gap : new int[] {-1, 0, 1}) refused(INDEX, Shops::busy, y -> y.gap(1, gap));
  }

  // "what: 0 LOCKED to BROKEN, 1 how many lines it has, 2 how many proofs were pulled of it"
  private static void formsThatAre() {
    int[][] due = {{LeadCases.BROKEN, 0, 0}, {LeadCases.SOUND, 1, 1}, {LeadCases.LOCKED, 1, 0}};
    LeadCases x = busy();
    for (int form = 0; form < 3; form++) {
      for (int what = 0; what < 3; what++) due(x.form(form, what), due[form][what]);
    }
    for (int form : new int[] {MIN, -1, 3, 4, MAX}) refused(INDEX, Shops::busy, y -> y.form(form, 0));
    for (int form : new int[] {-1, 4, MAX}) refused(INDEX, Shops::full, y -> y.form(form, 0));
    for (int what : new int[] {MIN, -1, 3, MAX}) {
      refused(RANGE, Shops::busy, y -> y.form(0, what));
      refused(RANGE, Shops::busy, y -> y.form(2, what));
    }
  }

  // "a sign of the latest proof"; "if there is no such sign"
  private static void printedSigns() {
    due(busy().printed(0), 'm');
    for (int place : new int[] {MIN, -1, 1, 2, 720, MAX}) refused(INDEX, Shops::busy, x -> x.printed(place));
    LeadCases x = stuffed(M, M, M, I);
    x.spaces(6, 2);
    x.spaces(4, 1);
    setLine(x, 0, "iiii");
    x.cast(0, A, 1);
    setLine(x, 0, "a");
    x.lock(0, 0);
    x.lock(1, 1);
    x.lift(0);
    x.lift(1);
    due(x.proof(0), 4);
    due(x.printed(3), 'i');
    due(x.proof(1), 1); // a shorter one takes the place of it
    due(x.printed(0), 'a');
    due(answer(() -> x.printed(1)), "IndexOutOfBoundsException");
    due(x.proof(0), 4);
    printedDue(x, "mmmi");
  }

  // "how many sorts of a face were cast and are not melted"; "the same, found by going through all boxes, lines .."
  private static void leadOfFaces() {
    LeadCases x = busy();
    leadDue(x, 0, A, 6); // in the box, in a line and in the pie
    leadDue(x, 0, B, 3);
    leadDue(x, 0, M, 2);
    leadDue(x, 1, A, 3);
    leadDue(x, 1, M, 0);
    leadDue(x, 0, HYPHEN, 0);
    x.foul(0, A, HYPHEN); // faces, not boxes
    leadDue(x, 0, A, 6);
    leadDue(x, 0, HYPHEN, 0);
    x.cast(0, A, 1);
    leadDue(x, 0, A, 7);
    LeadCases y = worn(12);
    leadDue(y, 0, A, 1); // not melted before it is put back
    y.unlock(0);
    leadDue(y, 0, A, 0);
    leadDue(y, 0, B, 1);
    leadDue(y, 0, M, 0);
    y.cast(0, A, 2);
    leadDue(y, 0, A, 2);
  }

  // "with what the boxes have now, without turning, however many lines and spaces there are"
  private static void ahead() {
    due(aheadOf(5, "aaaaa"), 1);
    due(aheadOf(4, "aaaaa"), 0);
    due(aheadOf(10, "aaaaa aaaaa"), 2);
    due(aheadOf(9, "aaaaa aaaaa"), 1);
    due(aheadOf(10, "aaaaa b aaaaa"), 1); // it stops where one can't be set
    due(aheadOf(1, "a  "), 1);
    due(aheadOf(1, "  a"), 1);
    due(aheadOf(40, ""), 0);
    due(aheadOf(40, "   "), 0);
    LeadCases x = new LeadCases(); // not with turned ones
    x.cast(0, B, 9);
    x.type('a');
    due(x.ahead(0), 0);
    x.foul(0, B, A); // but with what is in the box
    due(x.ahead(0), 1);
    due(x.ahead(1), 0);
    due(busy().ahead(0), 1); // ab a
    sameBehind(Shops::busy, y -> y.ahead(0));
    sameBehind(Shops::full, y -> due(y.ahead(0), 4)); // 5 words of 8 units each
  }

  private static int aheadOf(int sorts, String signs) {
    LeadCases x = new LeadCases();
    x.measure(20);
    x.cast(0, A, sorts);
    type(x, signs);
    return x.ahead(0);
  }

  // More lines than can be at a time
  private static void aheadOfManyLines() {
    String words = "mm ".repeat(20); // of two words each would be 27 units
    for (int sorts = 37; sorts <= 40; sorts++) {
      LeadCases x = new LeadCases();
      x.measure(20);
      x.cast(0, M, sorts);
      type(x, words);
      due(x.ahead(0), sorts / 2);
    }
    LeadCases y = new LeadCases();
    y.measure(20);
    y.cast(0, A, 12);
    y.cast(0, M, 40);
    for (int i = 0; i < 12; i++) setLine(y, 0, "a");
    type(y, words);
    due(y.ahead(0), 20);
  }

  // ---- "If several apply, the one that is named first in the throws clause is thrown."

  private static void firstOfCast() {
    refused(INDEX, Shops::busy, x -> x.cast(2, A, 0));
    refused(INDEX, Shops::busy, x -> x.cast(0, 29, 41));
    refused(INDEX, Shops::full, x -> x.cast(-1, A, 1));
    refused(INDEX, Shops::full, x -> x.cast(0, -1, 1));
    refused(INDEX, Shops::full, x -> x.cast(0, 29, 0));
    refused(RANGE, Shops::full, x -> x.cast(0, A, 0));
    refused(RANGE, Shops::full, x -> x.cast(0, A, 41));
    refused(RANGE, Shops::full, x -> x.cast(0, A, MAX));
  }

  private static void firstOfOthers() {
    refused(RANGE, Shops::full, x -> x.spaces(6, 0));
    refused(RANGE, Shops::full, x -> x.spaces(6, 101));
    refused(RANGE, Shops::full, x -> x.spaces(5, 1));
    refused(RANGE, Shops::full, x -> x.type('A'));
    refused(RANGE, Shops::full, x -> x.type('{'));
    refused(RANGE, Shops::full, x -> x.measure(19));
    refused(RANGE, Shops::full, x -> x.measure(201));
    refused(INDEX, Shops::full, x -> x.set(2, false));
    refused(INDEX, Shops::full, x -> x.set(-1, true));
    refused(INDEX, LeadCases::new, x -> x.set(2, true));
    refused(INDEX, Shops::busy, x -> x.foul(2, A, A));
    refused(INDEX, Shops::busy, x -> x.foul(0, 29, 29));
    refused(INDEX, Shops::busy, x -> x.foul(0, -1, -1));
    refused(INDEX, Shops::busy, x -> x.foul(0, C, 29)); // an empty box
    refused(INDEX, Shops::busy, x -> x.foul(0, C, -1));
    refused(INDEX, Shops::busy, x -> x.foul(-1, C, A));
    refused(RANGE, Shops::busy, x -> x.foul(0, C, C));
  }

  private static void firstOfForms() {
    refused(INDEX, Shops::busy, x -> x.lock(3, 2)); // the last one is ahead of the first one
    refused(INDEX, Shops::busy, x -> x.lock(0, -1));
    refused(INDEX, Shops::busy, x -> x.lock(0, 3)); // 0 is of a form
    refused(INDEX, Shops::busy, x -> x.lock(-1, 2));
    refused(INDEX, Shops::full, x -> x.lock(11, 12)); // there were 4
    refused(INDEX, Shops::full, x -> x.lock(12, 11));
    refused(INDEX, Shops::full, x -> x.lock(12, 12));
    refused(RANGE, Shops::busy, x -> x.lock(1, 0)); // 0 is of a form
    refused(RANGE, Shops::busy, x -> x.lock(2, 0));
    refused(RANGE, Shops::full, x -> x.lock(11, 10)); // there were 4
    refused(RANGE, Shops::full, x -> x.lock(3, 0));
    refused(STATE, Shops::full, x -> x.lock(11, 11));
    refused(STATE, Shops::full, x -> x.lock(0, 0));
  }

  private static void firstOfQuestions() {
    for (int what : new int[] {-1, 8, MIN, MAX}) {
      refused(INDEX, Shops::busy, x -> x.sort(14, what));
      refused(INDEX, Shops::busy, x -> x.sort(-1, what));
      refused(INDEX, Shops::busy, x -> x.line(3, what));
      refused(INDEX, Shops::busy, x -> x.line(-1, what));
      refused(INDEX, Shops::busy, x -> x.form(3, what));
      refused(INDEX, Shops::busy, x -> x.form(-1, what));
    }
  }
}
