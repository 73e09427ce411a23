import java.util.function.Supplier;

/**
 * Each sentence of the document that names a bound, with a test of its own, and the sentence above it: the last value
 * that is taken and the first that is refused, the thing empty and full. Here: what set takes off the text,
 * which sorts it takes, and how it fills the line.
 */
public final class BoundsOfLinesTest extends Shops {
  public static void main(String[] args) {
    cutting();
    turning();
    fillings();
    end();
  }

  private static void cutting() {
    part = "7, words";
    wordsThatGo();
    wordsOfWholeTexts();
    blanks();
    part = "7, parts";
    wordAsWideAsTheMeasure();
    partsOfWords();
    restsOfWords();
    missingHyphen();
    part = "7, refused";
    noWord();
    twelveLines();
  }

  private static void turning() {
    part = "7, turned";
    turnedOnlyForAnEmptyBox();
    turnedOfTheFullestBox();
    turnedAsWide();
    turnedOnTop();
    notSet();
    notSetAndTurned();
  }

  private static void fillings() {
    part = "7, filled";
    sharedRest();
    sharedRestOfLastLines();
    noRest();
    gapsOfTwelve();
    noGap();
    greatestSpaces();
    lastSpaces();
    slack();
  }

  // ---- set: what goes into a line

  /** Sets a line of a text; so many sorts and gaps are due, and so many signs that are left. */
  private static void lineDue(LeadCases x, int font, String signs, int sorts, int gaps, int left) {
    type(x, signs);
    int line = x.set(font, false);
    due(x.line(line, 0), font);
    due(x.line(line, 1), sorts);
    due(x.line(line, 2), gaps);
    due(x.clear(), left);
  }

  // "as many as go: with one more, their sorts .., and 3 units between each two, would be wider than the measure"
  private static void wordsThatGo() {
    lineDue(ample(23), 0, "aa aaa", 5, 1, 0); // 8 + 3 + 12
    lineDue(ample(22), 0, "aa aaa", 2, 0, 4);
    lineDue(ample(24), 0, "aa aaa", 5, 1, 0);
    lineDue(ample(26), 0, "a a aaa", 5, 2, 0); // 4 + 3 + 4 + 3 + 12
    lineDue(ample(25), 0, "a a aaa", 2, 1, 4);
    lineDue(ample(28), 1, "aa aaa", 5, 1, 0); // 10 + 3 + 15
    lineDue(ample(27), 1, "aa aaa", 2, 0, 4);
    lineDue(ample(20), 0, "aa aai", 2, 0, 4); // 8 + 3 + 10
    lineDue(ample(20), 0, "as aai", 5, 1, 0); // 7 + 3 + 10
    lineDue(ample(20), 0, "a aaaaa i", 1, 0, 8); // no word is left out for one that would go
  }

  // The same with texts of 59 and 60 signs
  private static void wordsOfWholeTexts() {
    String words = "i ".repeat(30); // 60 + 29 * 3 are 147
    lineDue(ample(147), 0, words, 30, 29, 1);
    lineDue(ample(146), 0, words, 29, 28, 3);
    lineDue(ample(148), 0, words, 30, 29, 1);
    lineDue(ample(120), 0, "i".repeat(60), 60, 0, 0);
    lineDue(ample(119), 0, "i".repeat(60), 59, 0, 2); // 58 and a hyphen
    lineDue(ample(120), 0, "i".repeat(59) + "m", 60, 0, 1); // 59 and a hyphen
    lineDue(ample(200), 0, "a".repeat(50), 50, 0, 0);
    lineDue(ample(200), 0, "a".repeat(50) + "i", 50, 0, 2); // 49 and a hyphen
    lineDue(ample(200), 1, "a".repeat(40), 40, 0, 0);
    lineDue(ample(200), 1, "a".repeat(41), 40, 0, 2); // 39 and a hyphen
  }

  // "Its words are what stands between blanks."; "What was set, and all blanks ahead of it, is taken off the text."
  private static void blanks() {
    lineDue(ample(23), 0, "  aa   aaa  ", 5, 1, 2); // many blanks are one gap
    lineDue(ample(22), 0, "  aa   aaa  ", 2, 0, 8);
    lineDue(ample(20), 0, " ".repeat(59) + "a", 1, 0, 0);
    lineDue(ample(20), 0, "a" + " ".repeat(59), 1, 0, 59);
    lineDue(ample(20), 0, "a" + " ".repeat(58) + "a", 2, 1, 0);
    lineDue(ample(20), 0, "   aaaaaaa ", 5, 0, 4); // 4 and a hyphen
    lineDue(ample(20), 0, "--", 2, 0, 0); // points, commas and hyphens are of words
    LeadCases x = ample(20);
    type(x, " aaaaa  aaaaa "); // the blanks that are left stand ahead of what is set next
    x.set(0, false);
    x.set(0, false);
    due(x.line(1, 1), 5);
    due(x.clear(), 1);
  }

  // "If the first word by itself is wider than that"
  private static void wordAsWideAsTheMeasure() {
    lineDue(ample(20), 0, "aaaaa", 5, 0, 0);
    lineDue(ample(21), 0, "aaaaai", 5, 0, 2); // 22, so 4 and a hyphen
    lineDue(ample(22), 0, "aaaaai", 6, 0, 0);
    lineDue(ample(20), 1, "aaaa", 4, 0, 0);
    lineDue(ample(22), 1, "aaaai", 4, 0, 2); // 23, so 3 and a hyphen
    lineDue(ample(24), 0, "aa aaaaa", 2, 0, 6); // one that is not the first one is not divided
    lineDue(ample(20), 0, "i aaaaaa", 1, 0, 7);
  }

  // "as many of its signs as go with a hyphen behind them, one at least, the last one of the word not"
  private static void partsOfWords() {
    lineDue(ample(20), 0, "aaaaiaaa", 6, 0, 3); // aaaai- is 20
    lineDue(ample(20), 0, "aaaasaaa", 5, 0, 4); // aaaas- would be 21
    lineDue(ample(20), 0, "iaaaaa", 6, 0, 1); // iaaaa- is 20
    lineDue(ample(20), 0, "saaaaa", 5, 0, 2); // saaaa- would be 21
    lineDue(ample(20), 0, "aaaaim", 6, 0, 1); // all but the last one
    lineDue(ample(20), 0, "aaaaam", 5, 0, 2); // aaaaa- would be 22
    lineDue(ample(20), 1, "mmm", 3, 0, 1); // mm- is 17
    lineDue(ample(20), 1, "mmmm", 3, 0, 2);
    lineDue(ample(20), 1, "aasaiii", 4, 0, 4); // aas- is 17, and with an a 22
    lineDue(ample(20), 0, "aaaai a", 5, 0, 2); // a whole word has no hyphen
    LeadCases x = ample(20);
    type(x, "aaaaiaaa");
    x.set(0, false);
    due(x.sort(x.sortAt(0, 4), 1), I);
    due(x.sort(x.sortAt(0, 5), 1), HYPHEN);
    due(x.line(0, 5), 0);
  }

  // "the others are a word by itself, the first one then"
  private static void restsOfWords() {
    LeadCases x = ample(20);
    type(x, "aaaaaaa a"); // aaaa-, and aaa a with 19
    due(x.ahead(0), 2);
    x.set(0, false);
    x.set(0, false);
    due(x.line(1, 1), 4);
    due(x.line(1, 2), 1);
    due(x.clear(), 0);
    type(x, "aaaaaaaaa"); // aaaa-, and aaaaa with just 20
    due(x.ahead(0), 2);
    x.set(0, false);
    x.set(0, false);
    due(x.line(3, 1), 5);
    type(x, "aaaaaaaaaa"); // aaaa-, aaaa-, aa
    due(x.ahead(0), 3);
    x.set(0, false);
    x.set(0, false);
    x.set(0, false);
    due(x.line(5, 1), 5);
    due(x.line(6, 1), 2);
    due(x.clear(), 0);
  }

  // A hyphen that is missing is a sort that is missing.
  private static void missingHyphen() {
    Supplier<LeadCases> made = () -> {
      LeadCases x = new LeadCases();
      x.measure(20);
      x.cast(0, A, 10);
      type(x, "aaaaaaaaaa");
      return x;
    };
    sameBehind(made, x -> due(x.set(0, false), -10 - HYPHEN));
    sameBehind(made, x -> due(x.set(0, true), -10 - HYPHEN)); // nothing is as wide
    due(made.get().ahead(0), 0);
    LeadCases x = made.get();
    x.cast(0, HYPHEN, 1);
    due(x.ahead(0), 1);
    due(x.set(0, false), 0);
    due(x.set(0, false), -10 - HYPHEN);
    due(x.cast(0, I, 1), 12);
    due(x.set(0, true), 1); // an i is
    due(x.sort(11, 5), 1);
    due(x.line(1, 6), 4);
  }

  // "if the text has no word"
  private static void noWord() {
    for (int blanks = 0; blanks <= 60; blanks += 20) {
      String signs = " ".repeat(blanks);
      Supplier<LeadCases> made = () -> {
        LeadCases x = lined(1);
        type(x, signs);
        return x;
      };
      refused(STATE, made, x -> x.set(0, false));
      refused(STATE, made, x -> x.set(0, true));
      refused(STATE, made, x -> x.set(1, true));
      due(made.get().ahead(0), 0);
    }
  }

  // "at most 12 at a time"; "or there are 12 lines"
  private static void twelveLines() {
    LeadCases x = lined(11);
    due(setLine(x, 0, "a"), 11);
    due(x.lines(), 12);
    Supplier<LeadCases> made = () -> {
      LeadCases y = lined(12);
      y.type('a');
      return y;
    };
    refused(STATE, made, y -> y.set(0, false));
    refused(STATE, made, y -> y.set(0, true));
    refused(STATE, made, y -> y.set(1, false)); // though a sort is missing too
    refused(STATE, Shops::full, y -> y.set(0, false));
    LeadCases y = made.get();
    y.putBack(0);
    due(y.set(0, false), 11);
    LeadCases z = made.get(); // 12 at a time, not ever
    z.lock(0, 11);
    z.unlock(0);
    due(z.set(0, false), 0);
  }

  // ---- set: turned sorts

  // "If the box is empty, and turning is allowed"
  private static void turnedOnlyForAnEmptyBox() {
    LeadCases x = new LeadCases();
    x.cast(0, A, 1); // 0
    x.cast(0, B, 5); // 1 to 5
    type(x, "aa");
    due(x.set(0, false), -10 - A); // the first one is there
    due(x.set(0, true), 0);
    due(x.sortAt(0, 0), 0);
    due(x.sort(0, 5), 0);
    due(x.sortAt(0, 1), 5);
    due(x.sort(5, 5), 1);
    due(x.line(0, 5), 1);
    due(x.line(0, 6), 1);
    LeadCases y = new LeadCases(); // a box with a sort that is too wide is not empty
    y.cast(0, M, 1);
    y.cast(0, B, 1);
    y.foul(0, M, A);
    type(y, "a");
    due(y.set(0, true), 0);
    due(y.sortAt(0, 0), 0);
    due(y.sort(0, 5), 0);
    due(y.line(0, 5), 1);
  }

  // "that of the box with the most sorts, of several the lowest"
  private static void turnedOfTheFullestBox() {
    turnedDue(B, 2, C, 2, "a", B);
    turnedDue(B, 2, C, 3, "a", C);
    turnedDue(B, 3, C, 2, "a", B);
    turnedDue(A, 2, C, 2, "b", A);
    turnedDue(A, 2, C, 3, "b", C);
    turnedDue(I, 1, HYPHEN, 1, "l", I);
    turnedDue(I, 1, HYPHEN, 2, "l", HYPHEN);
    LeadCases x = new LeadCases(); // the boxes have as many as they have then
    x.cast(0, B, 2); // 0, 1
    x.cast(0, C, 2); // 2, 3
    type(x, "aaaa");
    due(x.set(0, true), 0);
    int[] taken = {1, 3, 0, 2};
    for (int i = 0; i < 4; i++) due(x.sortAt(0, i), taken[i]);
  }

  private static void turnedDue(int box, int number, int other, int otherNumber, String signs, int due) {
    LeadCases x = new LeadCases();
    x.cast(0, box, number);
    x.cast(0, other, otherNumber);
    type(x, signs);
    due(x.set(0, true), 0);
    due(x.sort(x.sortAt(0, 0), 1), due);
    due(x.sort(x.sortAt(0, 0), 5), 1);
  }

  // "of the sorts that lie on top of the other boxes of the case and are as wide as the face that is asked for"
  private static void turnedAsWide() {
    for (int box : new int[] {R, M, I}) { // 3, 6 and 2 units
      LeadCases x = new LeadCases();
      x.cast(0, box, 9);
      x.cast(1, R, 9); // 4 units, but of the other case
      type(x, "a");
      due(x.set(0, true), -10 - A);
      x.cast(0, D, 1);
      due(x.set(0, true), 0);
      due(x.sort(x.sortAt(0, 0), 1), D);
    }
    turnedDue(R, 1, A, 9, "s", R);
    turnedDue(22, 1, A, 9, "m", 22); // w
    turnedDue(27, 1, A, 9, ".", 27);
    LeadCases x = new LeadCases();
    x.cast(1, R, 1);
    x.cast(1, B, 1);
    type(x, "a");
    due(x.set(1, true), 0);
    due(x.sort(x.sortAt(0, 0), 1), B);
  }

  // The sorts that lie on top: neither those below nor the boxes themselves
  private static void turnedOnTop() {
    LeadCases x = new LeadCases();
    x.cast(0, B, 5); // 0 to 4
    x.cast(0, R, 1); // 5
    x.cast(0, D, 1); // 6
    x.foul(0, R, B); // r on top of b
    type(x, "a");
    due(x.set(0, true), 0);
    due(x.sortAt(0, 0), 6);
    type(x, "a");
    due(x.set(0, true), -10 - A); // no other sort of 4 units is on top
    x.clear();
    type(x, "s");
    due(x.set(0, true), 1);
    due(x.sortAt(1, 0), 5);
    LeadCases y = new LeadCases(); // all sorts of the box count, not those that are as wide
    y.cast(0, I, 3); // 0 to 2
    y.cast(0, B, 1); // 3
    y.cast(0, C, 3); // 4 to 6
    y.foul(0, B, I); // 4 sorts, one of them as wide
    type(y, "a");
    due(y.set(0, true), 0);
    due(y.sortAt(0, 0), 3);
  }

  // "Otherwise the line is not set: all is as before, and the sign is told."
  private static void notSet() {
    Supplier<LeadCases> made = () -> {
      LeadCases x = busy();
      x.clear();
      type(x, " aab--");
      return x;
    };
    sameBehind(made, x -> due(x.set(0, false), -10 - HYPHEN));
    sameBehind(made, x -> due(x.set(0, true), -10 - HYPHEN));
    sameBehind(made, x -> due(x.set(1, false), -10 - A)); // one a is there, and no other
    sameBehind(made, x -> due(x.set(1, true), -10 - A));
  }

  // The same with sorts that would have been turned
  private static void notSetAndTurned() {
    Supplier<LeadCases> made = () -> {
      LeadCases x = new LeadCases();
      x.cast(0, B, 2);
      x.cast(0, C, 2);
      x.spaces(6, 9);
      type(x, "  bcaa a");
      return x;
    };
    sameBehind(made, x -> due(x.set(0, true), -10 - A)); // for the last one nothing is left
    LeadCases x = made.get();
    x.set(0, true);
    for (int sort = 0; sort < 4; sort++) toldDue(x, sort, 0, sort < 2 ? B : C, 0, LeadCases.BOX, sort < 2 ? B : C, 0);
  }

  // ---- set: what fills a line

  // "shared among the gaps .., each of which gets as many units, rounded down, the first ones 1 more each"
  private static void sharedRest() {
    gapsDue(stuffed(M, M, M), "i i i m", 0, 1, 1); // 18 of 20 units
    gapsDue(stuffed(M, M, S), "i i i m", 0, 3, 2);
    gapsDue(stuffed(M, M, I), "i i i m", 0, 3, 3);
    gapsDue(stuffed(M, A, S), "i i i m", 0, 4, 3);
    gapsDue(stuffed(M, A, I), "i i i m", 0, 4, 4);
    gapsDue(stuffed(I, I, I, I), "i i i i m", 0, 4, 4, 4);
    gapsDue(stuffed(S, I, I, I), "i i i i m", 0, 4, 4, 3);
    gapsDue(stuffed(A, I, I, I), "i i i i m", 0, 4, 3, 3);
    gapsDue(stuffed(S, A, I, I), "i i i i m", 0, 3, 3, 3);
    gapsDue(stuffed(A, A, I, I), "i i i i m", 0, 3, 3, 2);
  }

  // "A last line, .. gets 3 units in each gap between words, and all else behind the sorts, if the rest is enough"
  private static void sharedRestOfLastLines() {
    gapsDue(stuffed(M, M, M), "i i i", 0, 1, 1); // 2 units, which are not enough
    gapsDue(stuffed(M, M, S), "i i i", 0, 3, 2); // 5
    gapsDue(stuffed(M, M, I), "i i i", 0, 3, 3); // 6, which are enough
    gapsDue(stuffed(M, A, S), "i i i", 1, 3, 3); // 7
    gapsDue(stuffed(M, A, I), "i i i", 2, 3, 3); // 8
    gapsDue(stuffed(S, A, I, I), "i i i i", 0, 3, 3, 3);
    gapsDue(stuffed(A, A, I, I), "i i i i", 0, 3, 3, 2);
    gapsDue(stuffed(M, M, S), "i i i  ", 0, 3, 2); // blanks are no words that are left
    gapsDue(stuffed(M, A, S), "i i i  ", 1, 3, 3);
  }

  // "A line with a rest below 0 has no spaces."
  private static void noRest() {
    for (String more : new String[] {"", " m"}) {
      gapsDue(stuffed(M, M, A, I), "i i ii" + more, 0, 1, 1); // 2 units
      gapsDue(stuffed(M, M, S, A), "i i ii" + more, 0, 1, 0); // 1 unit
      gapsDue(stuffed(M, M, M, I), "i i ii" + more, 0, 0, 0); // none
      gapsDue(stuffed(M, M, M, S), "i i ii" + more, 0, 0, 0); // 1 too many
      gapsDue(stuffed(M, M, M, M), "i i ii" + more, 0, 0, 0);
    }
    gapsDue(stuffed(M, M, M, I), "iiii", 0);
    gapsDue(stuffed(M, M, M, S), "iiii", 0);
    gapsDue(stuffed(M, M, S, A), "iiii", 1);
  }

  // "any line with a gap of more than 12 units by that"
  private static void gapsOfTwelve() {
    gapsDue(ample(23), "a aa aaaa", 0, 11);
    gapsDue(ample(24), "a aa aaaa", 0, 12);
    gapsDue(ample(25), "a aa aaaa", 10, 3); // 13 would be too many
    gapsDue(ample(35), "a a a aaaaaaa", 0, 12, 11);
    gapsDue(ample(36), "a a a aaaaaaa", 0, 12, 12);
    gapsDue(ample(37), "a a a aaaaaaa", 19, 3, 3); // 13 and 12
    gapsDue(ample(38), "a a a aaaaaaa", 20, 3, 3); // 13 and 13
  }

  // "without a gap there is one gap behind the sorts"
  private static void noGap() {
    gapsDue(ample(20), "aaaaaaa", 2); // aaaa- is 18
    gapsDue(ample(20), "a aaaaa", 16); // more than 12 units, and not the last line
    gapsDue(ample(20), "a", 16);
    gapsDue(ample(20), "aaaaa", 0);
    gapsDue(ample(20), "aaaaa a", 0);
    gapsDue(ample(36), "aaaaa", 16);
    for (String signs : new String[] {"a", "a aaaaa"}) {
      Supplier<LeadCases> made = () -> {
        LeadCases x = ample(20);
        spaces(x, 9);
        type(x, signs);
        x.set(0, false);
        return x;
      };
      refused(INDEX, made, x -> x.gap(0, 0)); // it is none between words
    }
  }

  // "the greatest that is not wider than what is left of it and that there is, again and again"
  private static void greatestSpaces() {
    usedDue("mmaa", 20, 9, 0, 0, 0, 0, 0);
    usedDue("mmas", 20, 9, 0, 0, 0, 0, 1);
    usedDue("mmm", 20, 9, 0, 0, 0, 1, 0);
    usedDue("mmsi", 20, 9, 0, 0, 1, 0, 0);
    usedDue("aaaa", 20, 9, 0, 1, 0, 0, 0);
    usedDue("aaas", 20, 9, 0, 1, 0, 0, 1);
    usedDue("aaai", 20, 9, 1, 0, 0, 0, 0);
    usedDue("mas", 20, 9, 1, 0, 0, 0, 1);
    usedDue("aaa", 20, 9, 1, 0, 0, 1, 0);
    usedDue("ssi", 20, 9, 2, 0, 0, 0, 0);
    usedDue("a", 21, 9, 2, 1, 0, 0, 1);
    usedDue("a", 25, 9, 3, 0, 1, 0, 0);
    usedDue("a", 27, 9, 3, 1, 0, 0, 1);
    usedDue("a", 60, 9, 9, 0, 0, 1, 0);
    usedDue("a", 62, 9, 9, 1, 0, 0, 0);
    usedDue("a", 64, 9, 9, 1, 0, 1, 0); // 6 are left, but no space of 6
  }

  /** Sets a word as a line, with so many spaces of each kind, and looks how many of 6, 4, 3, 2 and 1 units it has. */
  private static void usedDue(String word, int measure, int number, int... used) {
    LeadCases x = ample(measure);
    spaces(x, number);
    due(setLine(x, 0, word), 0);
    int[] units = {6, 4, 3, 2, 1};
    int sum = 0;
    for (int i = 0; i < 5; i++) {
      due(x.inSpaces(units[i]), number - used[i]);
      sum += units[i] * used[i];
    }
    due(x.line(0, 7), sum);
    due(x.line(0, 3), measure - sum - widthOf(word));
  }

  private static int widthOf(String word) {
    int width = 0;
    for (char face : word.toCharArray()) width += face == 'm' ? 6 : face == 'a' ? 4 : face == 's' ? 3 : 2;
    return width;
  }

  // ".. and that there is ..; what cannot be made so stays open"
  private static void lastSpaces() {
    usedDue("a", 20, 1, 1, 1, 1, 1, 1); // 16 units, all there are
    usedDue("a", 21, 1, 1, 1, 1, 1, 1); // 17, so 1 stays open
    usedDue("s", 20, 1, 1, 1, 1, 1, 1);
    usedDue("aa", 20, 1, 1, 1, 0, 1, 0); // 12
    usedDue("m", 20, 1, 1, 1, 1, 0, 1); // 14
    usedDue("a", 200, 9, 9, 9, 9, 9, 9);
    LeadCases x = ample(21); // the gaps in their order, the one behind the sorts last
    x.spaces(3, 2);
    setLine(x, 0, "a a a"); // 9 units
    due(x.gap(0, 0), 3);
    due(x.gap(0, 1), 3);
    due(x.line(0, 7), 0);
    due(x.line(0, 3), 3);
    LeadCases y = ample(21);
    y.spaces(4, 9); // too wide for the gaps
    setLine(y, 0, "a a a");
    due(y.gap(0, 0), 0);
    due(y.gap(0, 1), 0);
    due(y.line(0, 7), 0); // 3 units are behind
    due(y.inSpaces(4), 9);
    LeadCases z = ample(22);
    z.spaces(4, 9);
    setLine(z, 0, "a a a");
    due(z.line(0, 7), 4);
    due(z.inSpaces(4), 8);
  }

  // "The slack of a line is the measure less the widths of all that stands in it"
  private static void slack() {
    int[][] boxes = {{M, M, M, I}, {M, M, M, S}, {M, M, M, M}, {M, M, S, A}, {I, I, I, I}};
    int[] slack = {0, -1, -4, 1, 12};
    for (int i = 0; i < boxes.length; i++) {
      LeadCases x = stuffed(boxes[i]);
      setLine(x, 0, "iiii");
      due(x.line(0, 3), slack[i]);
    }
    LeadCases x = stuffed(M, M, S, A);
    spaces(x, 1);
    setLine(x, 0, "iiii");
    due(x.line(0, 3), 0);
  }
}
