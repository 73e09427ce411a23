/** For each promise of the document what it does, its edges, and what it throws. */
public final class PromisesTest extends Checks {
  public static void main(String[] args) {
    newObject();
    casting();
    addingSpaces();
    typing();
    clearing();
    measuring();
    settingWords();
    settingParts();
    settingTurned();
    settingFails();
    filling();
    fillingWide();
    mending();
    mendingFromPie();
    mendingOfForms();
    puttingBack();
    fouling();
    sortingPie();
    locking();
    lifting();
    proofs();
    unlocking();
    asking();
    countingLead();
    lookingAhead();
    end();
  }

  // ---- 1 to 6

  private static void newObject() {
    part = "1";
    LeadCases x = new LeadCases();
    for (int font = 0; font < 2; font++) {
      for (int box = 0; box < 29; box++) {
        due(x.inBox(font, box), 0);
        due(x.top(font, box), LeadCases.NONE);
        due(x.lead(font, box), 0);
        due(x.leadAnew(font, box), 0);
      }
      due(x.ahead(font), 0);
    }
    for (int units : new int[] {1, 2, 3, 4, 6}) due(x.inSpaces(units), 0);
    due(x.lines(), 0);
    due(x.pie(), 0);
    due(x.clear(), 0);
    due(x.measure(60), 60);
    throwing(INDEX, x, () -> x.sort(0, 0));
    throwing(INDEX, x, () -> x.line(0, 0));
    throwing(INDEX, x, () -> x.form(0, 0));
    throwing(INDEX, x, () -> x.printed(0));
  }

  private static void casting() {
    part = "2";
    LeadCases x = new LeadCases();
    due(x.cast(0, 0, 1), 1);
    due(x.cast(1, 28, 40), 41);
    due(x.inBox(1, 28), 40);
    due(x.top(1, 28), 40);
    due(x.top(0, 0), 0);
    due(x.sort(40, 0), 1);
    due(x.sort(40, 1), 28);
    due(x.sort(40, 2), 0);
    due(x.sort(40, 3), LeadCases.BOX);
    due(x.sort(40, 4), 28);
    due(x.sort(40, 5), 0);
    throwing(INDEX, x, () -> x.cast(-1, 0, 1));
    throwing(INDEX, x, () -> x.cast(2, 0, 0));
    throwing(INDEX, x, () -> x.cast(0, -1, 1));
    throwing(INDEX, x, () -> x.cast(0, 29, 41));
    throwing(RANGE, x, () -> x.cast(0, 0, 0));
    throwing(RANGE, x, () -> x.cast(0, 0, 41));
    throwing(RANGE, x, () -> x.cast(0, 0, Integer.MAX_VALUE));
    for (int i = 0; i < 6; i++) x.cast(0, i, 40);
    due(x.cast(0, 9, 10), 291);
    throwing(STATE, x, () -> x.cast(0, 0, 10));
    throwing(RANGE, x, () -> x.cast(0, 0, 41));
    throwing(INDEX, x, () -> x.cast(0, 29, 10));
    due(x.cast(0, 0, 9), 300);
    due(x.sort(299, 4), 0);
    throwing(STATE, x, () -> x.cast(0, 0, 1));
  }

  private static void addingSpaces() {
    part = "3";
    LeadCases x = new LeadCases();
    due(x.spaces(6, 1), 1);
    due(x.spaces(6, 100), 101);
    due(x.inSpaces(6), 101);
    due(x.inSpaces(4), 0);
    for (int units : new int[] {0, 5, 7, -1, Integer.MIN_VALUE, Integer.MAX_VALUE}) {
      throwing(RANGE, x, () -> x.spaces(units, 1));
    }
    throwing(RANGE, x, () -> x.spaces(1, 0));
    throwing(RANGE, x, () -> x.spaces(1, 101));
    for (int i = 0; i < 9; i++) x.spaces(1, 100);
    due(x.spaces(1, 99), 999);
    throwing(STATE, x, () -> x.spaces(1, 2));
    throwing(RANGE, x, () -> x.spaces(1, 101));
    due(x.spaces(1, 1), 1000);
    throwing(STATE, x, () -> x.spaces(1, 1));
  }

  private static void typing() {
    part = "4";
    LeadCases x = new LeadCases();
    int count = 0;
    for (char sign : "az .,-".toCharArray()) due(x.type(sign), ++count);
    for (char sign : new char[] {'A', 'Z', '0', '_', '`', '{', '/', '+', '\n', 0, 228, 65535, '!', ';'}) {
      throwing(RANGE, x, () -> x.type(sign));
    }
    while (count < 60) due(x.type(' '), ++count);
    throwing(STATE, x, () -> x.type('a'));
    throwing(STATE, x, () -> x.type(' '));
    throwing(RANGE, x, () -> x.type('A'));
  }

  private static void clearing() {
    part = "5";
    LeadCases x = new LeadCases();
    type(x, " a b");
    due(x.clear(), 4);
    due(x.clear(), 0);
    throwing(STATE, x, () -> x.set(0, true));
    due(x.type('a'), 1);
  }

  private static void measuring() {
    part = "6";
    LeadCases x = new LeadCases();
    due(x.measure(20), 60);
    due(x.measure(200), 20);
    throwing(RANGE, x, () -> x.measure(19));
    throwing(RANGE, x, () -> x.measure(201));
    throwing(RANGE, x, () -> x.measure(Integer.MIN_VALUE));
    x.cast(0, 0, 1);
    due(setLine(x, 0, "a"), 0);
    throwing(STATE, x, () -> x.measure(60));
    throwing(RANGE, x, () -> x.measure(19));
    x.putBack(0);
    due(x.measure(60), 200);
  }

  // ---- 7

  private static void settingWords() {
    part = "7, words";
    LeadCases x = shop(20);
    type(x, "  ab  a ba");
    due(x.set(0, false), 0); // ab a is 15 units, with ba 26
    due(x.line(0, 0), 0);
    due(x.line(0, 1), 3);
    due(x.line(0, 2), 1);
    due(x.clear(), 3);
    x.putBack(0);
    type(x, "ab abb  "); // 8 + 3 + 12 are 23
    due(x.set(0, false), 0);
    due(x.line(0, 1), 2);
    due(x.clear(), 6);
    x.putBack(0);
    type(x, "ab ab  "); // 19 units
    due(x.set(0, false), 0);
    due(x.line(0, 1), 4);
    due(x.clear(), 2);
    type(x, "aa aai"); // 8 + 3 + 10 are 21
    due(x.set(0, false), 1);
    due(x.line(1, 1), 2);
    x.clear();
    type(x, "aa ail"); // 8 + 3 + 8 are 19
    due(x.set(0, false), 2);
    due(x.line(2, 1), 5);
    type(x, "sa aai"); // 7 + 3 + 10 are 20
    due(x.set(0, false), 3);
    due(x.line(3, 1), 5);
    type(x, "sa aai");
    due(x.set(1, false), 4); // in the case 1: 9 + 3 + 13 are 25
    due(x.line(4, 0), 1);
    due(x.line(4, 1), 2);
    x.clear();
    due(setLine(x, 0, "a.,-"), 5);
    due(x.line(5, 1), 4);
    due(x.sort(x.sortAt(5, 1), 1), 26);
    due(x.sort(x.sortAt(5, 2), 1), 27);
    due(x.sort(x.sortAt(5, 3), 1), 28);
  }

  private static void settingParts() {
    part = "7, parts of words";
    LeadCases x = shop(20);
    type(x, "  aaaaaa a"); // 4 of 4 and 2 are 18, 5 are 22
    due(x.ahead(0), 2);
    due(x.set(0, false), 0);
    due(x.line(0, 1), 5);
    due(x.line(0, 2), 0);
    due(x.sort(x.sortAt(0, 4), 1), 28);
    due(x.line(0, 5), 0);
    due(x.set(0, false), 1); // aa a
    due(x.line(1, 1), 3);
    due(x.line(1, 2), 1);
    due(x.clear(), 0);
    type(x, "aaaaaii"); // 24 units; with the fifth one and a hyphen 22
    due(x.set(0, false), 2);
    due(x.line(2, 1), 5);
    due(x.clear(), 3);
    type(x, "aaaaiai"); // aaaai- is 20
    due(x.set(0, false), 3);
    due(x.line(3, 1), 6);
    due(x.clear(), 2);
    type(x, "aaaaim"); // all but the last one
    due(x.set(0, false), 4);
    due(x.line(4, 1), 6);
    due(x.clear(), 1);
    x.putBack(4);
    type(x, "aaaaa"); // just as wide as the measure
    due(x.set(0, false), 4);
    due(x.line(4, 1), 5);
    due(x.clear(), 0);
    type(x, "mmmm");
    due(x.set(1, false), 5); // 7 + 7 + 3 are 17
    due(x.line(5, 1), 3);
    due(x.sort(x.sortAt(5, 2), 0), 1);
    due(x.clear(), 2);
    type(x, "aaaai a"); // a whole word, not a part of one
    due(x.set(0, false), 6);
    due(x.line(6, 1), 5);
    due(x.line(6, 3), 2);
    due(x.clear(), 2);
    type(x, "aaaa-aaa"); // the sign ahead may be a hyphen itself
    due(x.set(0, false), 7);
    due(x.line(7, 1), 6);
    due(x.sort(x.sortAt(7, 4), 1), 28);
    due(x.sort(x.sortAt(7, 5), 1), 28);
    due(x.clear(), 3);
  }

  private static void settingTurned() {
    part = "7, turned";
    LeadCases x = new LeadCases();
    x.cast(0, 1, 2); // b: 0, 1
    x.cast(0, 3, 3); // d: 2, 3, 4
    x.cast(0, 4, 3); // e: 5, 6, 7
    x.cast(0, 17, 9); // r: too narrow
    x.cast(1, 0, 9); // the other case
    due(setLine(x, 0, "aaaa"), -10);
    due(x.clear(), 4);
    type(x, "aaaa");
    due(x.set(0, true), 0);
    due(x.sortAt(0, 0), 4); // d and e have 3 each: the lowest
    due(x.sortAt(0, 1), 7); // e has the most then
    due(x.sortAt(0, 2), 1); // of 2 each b is the lowest
    due(x.sortAt(0, 3), 3);
    due(x.sort(4, 5), 1);
    due(x.line(0, 5), 4);
    due(x.line(0, 6), 0);
    type(x, "b");
    due(x.set(0, true), 1); // one is there, so it isn't turned
    due(x.sortAt(1, 0), 0);
    due(x.sort(0, 5), 0);
    due(x.line(1, 5), 0);
    due(x.line(1, 6), LeadCases.NONE);
    due(x.putBack(0), 4);
    due(x.sort(4, 5), 0);
    due(x.top(0, 3), 4);

    LeadCases y = new LeadCases(); // what is as wide is the sort, not the box in which it lies
    y.cast(0, 0, 1); // a: 0
    y.cast(0, 8, 2); // i: 1, 2
    y.foul(0, 0, 8);
    type(y, "b");
    due(y.set(0, true), 0);
    due(y.sortAt(0, 0), 0);
    type(y, "b");
    due(y.set(0, true), -11);
    type(y, "l"); // the text is bl then
    due(y.set(0, true), -11);

    LeadCases z = new LeadCases(); // turned, though it has the face
    z.cast(0, 0, 1);
    z.cast(0, 1, 1);
    z.foul(0, 0, 1);
    type(z, "a");
    due(z.set(0, false), -10);
    due(z.set(0, true), 0);
    due(z.sortAt(0, 0), 0);
    due(z.sort(0, 5), 1);
    due(z.line(0, 5), 1);
    throwing(STATE, z, () -> z.mend(0, 0));
    z.cast(0, 0, 1);
    due(z.mend(0, 0), 2);
    due(z.top(0, 0), 0);
    due(z.sort(0, 5), 0);
  }

  private static void settingFails() {
    part = "7, not set";
    LeadCases x = new LeadCases();
    x.cast(0, 0, 2);
    x.cast(0, 2, 3);
    x.foul(0, 2, 0);
    x.spaces(1, 100);
    type(x, " aab");
    String before = told(x);
    due(x.set(0, false), -11);
    same(x, before);
    due(x.set(1, false), -10);
    same(x, before);
    type(x, "aam"); // all five of width 4 would go into it, but none is as wide as m
    before = told(x);
    due(x.set(0, true), -10 - 12);
    same(x, before);
    throwing(INDEX, x, () -> x.set(-1, true));
    throwing(INDEX, x, () -> x.set(2, false));
    due(x.clear(), 7);
    throwing(STATE, x, () -> x.set(0, true));
    throwing(INDEX, x, () -> x.set(2, true));
    type(x, "   ");
    throwing(STATE, x, () -> x.set(0, true));

    LeadCases y = new LeadCases(); // no hyphen
    y.cast(0, 0, 40);
    y.measure(20);
    type(y, "aaaaaa");
    due(y.ahead(0), 0);
    due(y.set(0, true), -38);
    due(y.clear(), 6);
    y.cast(0, 28, 1);
    for (int i = 0; i < 12; i++) due(setLine(y, 0, "a"), i);
    y.type('a');
    throwing(STATE, y, () -> y.set(0, true));
    throwing(INDEX, y, () -> y.set(2, true));
    due(y.ahead(0), 1);
    y.putBack(4);
    due(y.set(0, true), 11);
  }

  private static void filling() {
    part = "7, filled";
    LeadCases x = shop(30);
    spaces(x, 50);
    type(x, "a a a a aaaaa"); // 16 + 9 go, 5 * 4 more do not; 14 for 3 gaps
    due(x.set(0, false), 0);
    due(x.line(0, 2), 3);
    due(x.gap(0, 0), 5);
    due(x.gap(0, 1), 5);
    due(x.gap(0, 2), 4);
    due(x.line(0, 7), 0);
    due(x.line(0, 3), 0);
    due(x.inSpaces(4), 47); // 4 and 1, 4 and 1, 4
    due(x.inSpaces(1), 48);
    due(x.set(0, false), 1); // the last line, without a gap
    due(x.line(1, 2), 0);
    due(x.line(1, 7), 10);
    due(x.inSpaces(6), 49);
    due(x.inSpaces(4), 46);
    type(x, "a a"); // the last line
    due(x.set(0, false), 2);
    due(x.gap(2, 0), 3);
    due(x.line(2, 7), 19);
    due(x.line(2, 3), 0);
    due(x.inSpaces(3), 49);
    throwing(INDEX, x, () -> x.gap(2, 1)); // the one behind is none between words
    throwing(INDEX, x, () -> x.gap(1, 0));

    LeadCases y = shop(20); // what spaces there are
    y.spaces(6, 1);
    y.spaces(3, 1);
    y.spaces(2, 2);
    type(y, "i"); // 18 behind
    due(y.set(0, false), 0);
    due(y.line(0, 7), 13);
    due(y.line(0, 3), 5);
    due(y.inSpaces(6) + y.inSpaces(3) + y.inSpaces(2), 0);
    y.spaces(4, 1);
    type(y, "i i"); // 3 between: 4 is too wide for it, but goes behind
    due(y.set(0, false), 1);
    due(y.gap(1, 0), 0);
    due(y.line(1, 7), 4);
    due(y.line(1, 3), 12);
    y.putBack(0);
    due(y.inSpaces(6), 1);
    due(y.inSpaces(3), 1);
    due(y.inSpaces(2), 2);

    LeadCases z = shop(23); // the greatest first may leave more open than needed
    z.spaces(6, 1);
    z.spaces(4, 1);
    z.spaces(4, 1);
    type(z, "aaaii"); // 7 behind
    due(z.set(0, false), 0);
    due(z.line(0, 7), 6);
    due(z.line(0, 3), 1);
    due(z.inSpaces(4), 2);
  }

  private static void fillingWide() {
    part = "7, filled, wide";
    LeadCases x = shop(33);
    spaces(x, 50);
    type(x, "a aa aaaaaaa"); // the first two, and 33 - 12 are 21
    due(x.set(0, false), 0);
    due(x.gap(0, 0), 3); // as 21 are more than 12
    due(x.line(0, 7), 18);
    x.putBack(0);
    x.clear();
    x.measure(24);
    type(x, "a aa aaaa"); // 24 - 12 are just 12
    due(x.set(0, false), 0);
    due(x.gap(0, 0), 12);
    due(x.line(0, 7), 0);
    x.putBack(0);
    x.clear();
    x.measure(25);
    type(x, "a aa aaaa"); // 13
    due(x.set(0, false), 0);
    due(x.gap(0, 0), 3);
    due(x.line(0, 7), 10);
    x.putBack(0);
    x.clear();
    x.measure(37);
    type(x, "a a a aaaaaaa"); // 25 for 2: 13 and 12, so more than 12
    due(x.set(0, false), 0);
    due(x.gap(0, 0), 3);
    due(x.gap(0, 1), 3);
    due(x.line(0, 7), 19);
    x.putBack(0);
    x.clear();
    x.measure(36);
    type(x, "a a a aaaaaaa"); // 24 for 2: 12 each
    due(x.set(0, false), 0);
    due(x.gap(0, 0), 12);
    due(x.gap(0, 1), 12);
    x.putBack(0);
    x.clear();
    x.measure(35);
    type(x, "a a a aaaaaaa"); // 23: 12 and 11
    due(x.set(0, false), 0);
    due(x.gap(0, 0), 12);
    due(x.gap(0, 1), 11);

    LeadCases y = new LeadCases(); // wrong sorts: a rest too small for 3 units, and one below 0
    y.measure(20);
    y.cast(0, 8, 9); // i: 0 to 8
    y.cast(0, 12, 9); // m: 9 to 17
    spaces(y, 9);
    y.foul(0, 12, 8); // 17
    y.foul(0, 12, 8); // 16
    type(y, "i i ii"); // 6 + 6 + 2 + 2 are 16, 4 are left for 2 gaps of the last line
    due(y.set(0, false), 0);
    due(y.gap(0, 0), 2);
    due(y.gap(0, 1), 2);
    due(y.line(0, 7), 0);
    due(y.line(0, 3), 0);
    due(y.line(0, 5), 2);
    y.foul(0, 12, 8);
    y.foul(0, 12, 8);
    y.foul(0, 12, 8);
    y.foul(0, 12, 8);
    type(y, "i ii i"); // 24 are 4 too many
    due(y.set(0, false), 1);
    due(y.line(1, 3), -4);
    due(y.gap(1, 0), 0);
    due(y.gap(1, 1), 0);
    due(y.line(1, 7), 0);
    due(y.inSpaces(2), 7);
  }

  // ---- 8

  private static void mending() {
    part = "8";
    LeadCases x = new LeadCases();
    x.measure(20);
    x.cast(0, 0, 3); // a: 0, 1, 2
    x.cast(0, 12, 3); // m: 3, 4, 5
    spaces(x, 9);
    x.foul(0, 12, 0); // 5 on top of a
    type(x, "a a");
    due(x.set(0, false), 0); // 5, 2: 10 units, 3 between and 7 behind
    due(x.sortAt(0, 0), 5);
    due(x.line(0, 5), 1);
    due(x.line(0, 6), 0);
    due(x.line(0, 7), 7);
    due(x.inSpaces(6), 8);
    throwing(INDEX, x, () -> x.mend(1, 0));
    throwing(INDEX, x, () -> x.mend(-1, 0));
    throwing(INDEX, x, () -> x.mend(0, 2));
    throwing(INDEX, x, () -> x.mend(0, -1));
    throwing(STATE, x, () -> x.mend(0, 1)); // not wrong
    x.foul(0, 12, 0); // 4 on top of a: no a lies there on top
    throwing(STATE, x, () -> x.mend(0, 0));
    x.foul(0, 0, 12);
    due(x.mend(0, 0), 1);
    due(x.sortAt(0, 0), 1);
    due(x.sort(1, 3), LeadCases.LINE);
    due(x.sort(1, 4), 0);
    due(x.top(0, 12), 5);
    due(x.sort(5, 3), LeadCases.BOX);
    due(x.sort(5, 4), 12);
    due(x.gap(0, 0), 3);
    due(x.line(0, 7), 9); // still a last line
    due(x.line(0, 3), 0);
    due(x.inSpaces(6), 8);
    due(x.inSpaces(3), 7);
    due(x.inSpaces(1), 9);
    throwing(STATE, x, () -> x.mend(0, 0));

    LeadCases y = shop(30); // not a last line; a turned one
    spaces(y, 30);
    type(y, "a a a a aaaaa");
    emptyBox(y, 0, 0, 2);
    due(y.set(0, true), 0);
    due(y.line(0, 5), 4);
    due(y.line(0, 7), 0);
    int turned = y.sortAt(0, 3);
    due(y.sort(turned, 5), 1);
    y.clear(); // it does not become a last line by that
    int a = y.foul(0, 2, 0);
    due(y.mend(0, 3), a);
    due(y.sort(turned, 5), 0);
    due(y.sort(a, 5), 0);
    due(y.line(0, 5), 3);
    due(y.gap(0, 0), 5);
    due(y.gap(0, 2), 4);
  }

  private static void mendingFromPie() {
    part = "8, pie";
    LeadCases x = new LeadCases();
    x.measure(20);
    x.cast(0, 0, 5); // a: 0 to 4
    x.cast(0, 1, 1); // b: 5
    x.cast(1, 0, 1); // another case: 6
    setLine(x, 0, "aaaa"); // 4, 3, 2, 1: 16 units, 4 open
    setLine(x, 1, "a");
    x.lock(0, 1);
    due(x.lift(0), 5);
    due(x.pie(), 5);
    due(x.sort(6, 4), 4);
    x.foul(0, 0, 1); // 0 on top of b
    type(x, "b");
    due(x.set(0, false), 0);
    throwing(STATE, x, () -> x.set(0, false));
    due(x.mend(0, 0), 5);
    due(x.top(0, 0), 0);
    x.foul(0, 0, 1);
    type(x, "b");
    x.set(0, false); // 0 for b: there is no other b
    throwing(STATE, x, () -> x.mend(1, 0));
    x.putBack(1);
    x.putBack(0);
    due(x.cast(0, 1, 1), 8); // b: 7
    x.foul(0, 1, 0); // on top of a
    type(x, "a");
    x.set(0, false);
    due(x.sortAt(0, 0), 7);
    x.foul(0, 0, 1); // now the box of a is empty, and an a lies on top of b
    due(x.inBox(0, 0), 0);
    due(x.mend(0, 0), 1); // of 4, 3, 2, 1 in the pie
    due(x.sort(1, 3), LeadCases.LINE);
    due(x.sort(1, 4), 0);
    due(x.pie(), 4);
    due(x.sort(2, 3), LeadCases.PIE);
    due(x.sort(2, 4), 2);
    due(x.sort(6, 4), 3);
    due(x.top(0, 1), 7);
    due(x.line(0, 5), 0);

    LeadCases y = new LeadCases(); // the lowest one may be the first one of the pie
    y.cast(0, 0, 2); // a: 0, 1
    y.cast(0, 1, 1); // b: 2
    y.foul(0, 0, 2); // 1 for c
    setLine(y, 0, "ac"); // 0, 1
    y.lock(0, 0);
    due(y.lift(0), 2);
    y.foul(0, 1, 0); // 2 for a
    setLine(y, 0, "a");
    due(y.mend(0, 0), 0);
    due(y.pie(), 1);
    due(y.sort(1, 4), 0);
  }

  private static void mendingOfForms() {
    part = "8, forms";
    LeadCases x = wornForm();
    due(x.form(0, 0), LeadCases.SOUND);
    due(x.form(0, 2), 12);
    due(x.mend(1, 0), 1);
    due(x.form(0, 0), LeadCases.LOCKED);
    due(x.line(1, 4), 0);
    due(x.line(1, 3), 2);
    due(x.sort(2, 3), LeadCases.MELTED); // what stood there had a wear of 12
    due(x.sort(2, 4), LeadCases.NONE);
    due(x.lead(0, 12), 0);
    due(x.leadAnew(0, 12), 0);
    throwing(STATE, x, () -> x.proof(0));
    x.spaces(2, 1);
    due(x.lift(0), 1); // a space more does not come into a line that is filled
    due(x.form(0, 0), LeadCases.BROKEN);

    LeadCases y = wornForm();
    y.spaces(2, 1);
    y.mend(1, 0);
    due(y.line(1, 3), 0);
    due(y.form(0, 0), LeadCases.LOCKED);
    throwing(STATE, y, () -> y.proof(0));
    due(y.lift(0), 0);
    due(y.form(0, 0), LeadCases.SOUND);
    due(y.proof(0), 2);
    due(y.printed(0), '?');
    due(y.printed(1), 'b');
  }

  /** Lines of an a, 0, and of an m, 2, that stands for b, 1; both tight and with a wear of 12. */
  private static LeadCases wornForm() {
    LeadCases x = new LeadCases();
    x.measure(20);
    x.cast(0, 0, 1);
    x.cast(0, 1, 1);
    x.cast(0, 12, 1);
    x.spaces(6, 4);
    x.spaces(4, 1);
    x.spaces(2, 1);
    x.foul(0, 12, 1);
    setLine(x, 0, "a"); // 6 and 6 and 4
    setLine(x, 0, "b"); // 6 and 6 and 2
    x.lock(0, 1);
    x.lift(0);
    for (int i = 0; i < 12; i++) x.proof(0);
    return x;
  }

  // ---- 9 to 11

  private static void puttingBack() {
    part = "9";
    LeadCases x = new LeadCases();
    x.measure(20);
    x.cast(0, 0, 5); // a: 0 to 4
    x.cast(0, 1, 2); // b: 5, 6
    spaces(x, 9);
    x.foul(0, 1, 0); // 6 on top of a
    due(setLine(x, 0, "aab"), 0); // 6, 4, 5
    due(setLine(x, 0, "a"), 1); // 3
    due(setLine(x, 0, "a"), 2); // 2
    throwing(INDEX, x, () -> x.putBack(3));
    throwing(INDEX, x, () -> x.putBack(-1));
    due(x.sort(2, 4), 2);
    due(x.putBack(0), 3);
    due(x.lines(), 2);
    due(x.top(0, 1), 6); // 5, then 4 to a, then 6
    due(x.top(0, 0), 4);
    due(x.sortAt(0, 0), 3);
    due(x.sortAt(1, 0), 2);
    due(x.sort(2, 4), 1);
    due(x.sort(6, 3), LeadCases.BOX);
    due(x.sort(6, 4), 1);
    due(x.lock(1, 1), 0);
    throwing(STATE, x, () -> x.putBack(1));
    due(x.putBack(0), 1);
    due(x.line(0, 4), 0);
    throwing(STATE, x, () -> x.putBack(0));
    throwing(INDEX, x, () -> x.putBack(1));
    due(setLine(x, 0, "bb"), 1); // lines set behind one that went are lines of their own
    due(setLine(x, 0, "a"), 2);
    due(x.line(0, 1), 1);
    due(x.line(1, 1), 2);
    due(x.line(2, 1), 1);
    due(x.sortAt(0, 0), 2);
    due(x.putBack(1), 2);
    due(x.putBack(1), 1);
    x.unlock(0);
    for (int units : new int[] {1, 2, 3, 4, 6}) due(x.inSpaces(units), 9);

    LeadCases y = wornForm();
    y.mend(1, 0);
    due(y.lift(0), 1);
    due(y.lines(), 1);
    due(y.line(0, 4), LeadCases.NONE);
    due(y.putBack(0), 0); // a is melted
    due(y.sort(0, 3), LeadCases.MELTED);
    due(y.lead(0, 0), 0);
    due(y.inBox(0, 0), 0);
    due(y.inSpaces(6), 4);
  }

  private static void fouling() {
    part = "10";
    LeadCases x = new LeadCases();
    x.cast(1, 0, 2);
    due(x.foul(1, 0, 28), 1);
    due(x.top(1, 28), 1);
    due(x.top(1, 0), 0);
    due(x.inBox(1, 28), 1);
    due(x.sort(1, 1), 0);
    due(x.sort(1, 4), 28);
    due(x.sort(1, 6), 5);
    due(x.lead(1, 0), 2);
    due(x.lead(1, 28), 0);
    due(x.leadAnew(1, 0), 2);
    throwing(INDEX, x, () -> x.foul(2, 0, 0));
    throwing(INDEX, x, () -> x.foul(-1, 0, 1));
    throwing(INDEX, x, () -> x.foul(1, 29, 29));
    throwing(INDEX, x, () -> x.foul(1, 0, -1));
    throwing(INDEX, x, () -> x.foul(1, 5, 29));
    throwing(RANGE, x, () -> x.foul(1, 0, 0));
    throwing(RANGE, x, () -> x.foul(1, 5, 5));
    throwing(STATE, x, () -> x.foul(1, 5, 0));
    throwing(STATE, x, () -> x.foul(0, 0, 28));
  }

  private static void sortingPie() {
    part = "11";
    LeadCases x = new LeadCases();
    x.cast(0, 0, 3); // a: 0, 1, 2
    x.cast(0, 1, 2); // b: 3, 4
    due(x.sortPie(300), 0);
    setLine(x, 0, "abaab"); // 2, 4, 1, 0, 3
    x.lock(0, 0);
    due(x.lift(0), 5);
    due(x.sort(4, 3), LeadCases.PIE);
    due(x.sort(4, 4), 1);
    throwing(RANGE, x, () -> x.sortPie(0));
    throwing(RANGE, x, () -> x.sortPie(-1));
    throwing(RANGE, x, () -> x.sortPie(301));
    due(x.sortPie(3), 3);
    due(x.pie(), 2);
    due(x.top(0, 0), 1);
    due(x.top(0, 1), 4);
    due(x.sort(0, 4), 0);
    due(x.sort(3, 4), 1);
    due(x.sortPie(300), 2);
    due(x.pie(), 0);
    due(x.top(0, 0), 0);
    due(x.top(0, 1), 3);
    due(x.sortPie(1), 0);

    LeadCases y = new LeadCases(); // worn ones
    y.measure(20);
    y.cast(0, 0, 1); // a: 0
    y.cast(0, 12, 1); // m: 1
    y.cast(0, 1, 1); // b: 2
    y.spaces(6, 1);
    y.spaces(4, 1);
    y.foul(0, 12, 1);
    type(y, "ab"); // 0 and 1: 10 units
    y.set(0, false);
    y.lock(0, 0);
    due(y.lift(0), 0);
    for (int i = 0; i < 12; i++) y.proof(0);
    due(y.mend(0, 1), 2);
    due(y.lift(0), 2);
    due(y.sort(0, 2), 12);
    due(y.sort(0, 3), LeadCases.PIE);
    due(y.lead(0, 0), 1);
    due(y.sortPie(1), 0);
    due(y.sort(0, 3), LeadCases.MELTED);
    due(y.lead(0, 0), 0);
    due(y.pie(), 1);
    due(y.sortPie(1), 1);
    due(y.top(0, 1), 2);
  }

  // ---- 12 to 15

  private static void locking() {
    part = "12";
    LeadCases x = new LeadCases();
    x.cast(0, 0, 40);
    throwing(INDEX, x, () -> x.lock(0, 0));
    for (int i = 0; i < 6; i++) setLine(x, 0, "a");
    throwing(INDEX, x, () -> x.lock(-1, 0));
    throwing(INDEX, x, () -> x.lock(0, 6));
    throwing(INDEX, x, () -> x.lock(6, 0));
    throwing(RANGE, x, () -> x.lock(3, 2));
    due(x.lock(1, 3), 0);
    due(x.form(0, 0), LeadCases.LOCKED);
    due(x.form(0, 1), 3);
    due(x.form(0, 2), 0);
    due(x.line(0, 4), LeadCases.NONE);
    due(x.line(1, 4), 0);
    due(x.line(3, 4), 0);
    due(x.line(4, 4), LeadCases.NONE);
    throwing(STATE, x, () -> x.lock(0, 1));
    throwing(STATE, x, () -> x.lock(3, 4));
    throwing(STATE, x, () -> x.lock(0, 4));
    throwing(RANGE, x, () -> x.lock(3, 1));
    due(x.lock(0, 0), 1);
    due(x.lock(4, 4), 2);
    due(x.unlock(2), 1);
    due(x.lock(4, 4), 3); // forms are numbered ever, so it is the last one
    setLine(x, 0, "a");
    throwing(STATE, x, () -> x.lock(5, 5));
    throwing(RANGE, x, () -> x.lock(5, 4));
    throwing(INDEX, x, () -> x.lock(5, 6));
  }

  private static void lifting() {
    part = "13";
    LeadCases x = new LeadCases();
    x.measure(20);
    x.cast(0, 0, 9); // a: 0 to 8
    x.cast(0, 1, 9); // b: 9 to 17
    x.spaces(6, 4);
    x.spaces(4, 2);
    setLine(x, 0, "a"); // 8; 6 and 6 and 4
    setLine(x, 0, "aa"); // 7, 6; 6 and 6
    setLine(x, 0, "aaa"); // 5, 4, 3; 4, and 4 are open
    setLine(x, 0, "b"); // 17, all open
    setLine(x, 0, "bbbbb"); // 16 to 12, tight without spaces
    setLine(x, 0, "a"); // 2, of no form
    throwing(INDEX, x, () -> x.lift(0));
    x.lock(1, 4);
    throwing(INDEX, x, () -> x.lift(1));
    throwing(INDEX, x, () -> x.lift(-1));
    due(x.line(2, 3), 4);
    due(x.lift(0), 4);
    due(x.form(0, 0), LeadCases.BROKEN);
    due(x.form(0, 1), 0);
    due(x.lines(), 4);
    due(x.line(0, 1), 1);
    due(x.line(1, 1), 2);
    due(x.line(1, 4), LeadCases.NONE);
    due(x.line(2, 1), 5);
    due(x.line(2, 4), LeadCases.NONE);
    due(x.sortAt(3, 0), 2);
    due(x.pie(), 4);
    int[] fallen = {5, 4, 3, 17};
    for (int i = 0; i < 4; i++) {
      due(x.sort(fallen[i], 3), LeadCases.PIE);
      due(x.sort(fallen[i], 4), i);
    }
    due(x.inSpaces(4), 1);
    due(x.inSpaces(6), 0);
    throwing(STATE, x, () -> x.lift(0));
    due(x.lock(0, 2), 1);
    due(x.lift(1), 0);
    due(x.form(1, 0), LeadCases.SOUND);
    due(x.lift(1), 0);
    due(x.form(1, 0), LeadCases.SOUND);
    x.unlock(1);
    throwing(STATE, x, () -> x.lift(1));

    LeadCases y = new LeadCases(); // turned ones do not stay turned
    y.cast(0, 0, 1);
    type(y, "b");
    y.set(0, true);
    due(y.sort(0, 5), 1);
    y.lock(0, 0);
    due(y.lift(0), 1);
    due(y.sort(0, 5), 0);

    LeadCases z = new LeadCases(); // too wide is not tight
    z.measure(20);
    z.cast(0, 8, 1);
    z.cast(0, 12, 4);
    for (int i = 0; i < 4; i++) z.foul(0, 12, 8);
    setLine(z, 0, "iiii");
    due(z.line(0, 3), -4);
    z.lock(0, 0);
    due(z.lift(0), 4);
  }

  private static void proofs() {
    part = "14, 25";
    LeadCases x = new LeadCases();
    x.measure(20);
    x.cast(1, 0, 2); // a: 0, 1
    x.cast(1, 1, 1); // b: 2
    x.cast(1, 26, 1); // point: 3
    x.cast(1, 28, 1); // hyphen: 4
    x.cast(1, 27, 1); // comma: 5
    spaces(x, 20);
    throwing(INDEX, x, () -> x.proof(0));
    type(x, "a.  b");
    x.set(1, false);
    type(x, "c-,");
    x.set(1, true); // 0 turned for c
    x.lock(0, 1);
    throwing(STATE, x, () -> x.proof(0));
    throwing(INDEX, x, () -> x.proof(1));
    throwing(INDEX, x, () -> x.proof(-1));
    x.lift(0);
    due(x.proof(0), 7);
    printedDue(x, "a. b=-,");
    throwing(INDEX, x, () -> x.printed(7));
    throwing(INDEX, x, () -> x.printed(-1));
    due(x.form(0, 2), 1);
    for (int sort = 0; sort < 6; sort++) due(x.sort(sort, 2), 1);
    for (int i = 0; i < 11; i++) due(x.proof(0), 7);
    printedDue(x, "a. b=-,"); // with a wear of 11
    due(x.sort(0, 2), 12);
    due(x.proof(0), 7);
    printedDue(x, "?? ????");
    due(x.sort(0, 2), 13);
    setLine(x, 1, "a");
    due(x.form(0, 2), 13);
    due(x.unlock(0), 0);
    throwing(STATE, x, () -> x.proof(0));
    printedDue(x, "?? ????");

    LeadCases z = new LeadCases(); // gaps of 2 units and of 1
    z.measure(20);
    z.cast(0, 8, 1); // i: 0
    z.cast(0, 18, 1); // s: 1
    z.cast(0, 12, 2); // m: 2, 3
    z.cast(0, 27, 1); // comma: 4
    for (int box : new int[] {18, 12, 12, 27}) z.foul(0, box, 8);
    z.spaces(1, 9);
    type(z, "i ii i"); // 2 + 6 + 6 + 3 are 17, so 3 are left
    z.set(0, false);
    due(z.gap(0, 0), 2);
    due(z.gap(0, 1), 1);
    z.lock(0, 0);
    z.lift(0);
    due(z.proof(0), 6);
    printedDue(z, ", mm s");

    LeadCases y = new LeadCases(); // gaps in which nothing stands, and a shorter proof
    y.measure(20);
    y.cast(0, 8, 1); // i: 0
    y.cast(0, 12, 3); // m: 1, 2, 3
    for (int i = 0; i < 3; i++) y.foul(0, 12, 8);
    y.spaces(1, 20);
    y.spaces(2, 1);
    type(y, "ii i i"); // 6 + 6 + 6 + 2 are just 20
    y.set(0, false);
    due(y.line(0, 2), 2);
    due(y.line(0, 3), 0);
    due(y.gap(0, 0), 0);
    y.lock(0, 0);
    y.lift(0);
    due(y.proof(0), 4);
    printedDue(y, "mmmi");
    y.unlock(0);
    y.foul(0, 8, 9); // i away, so that the next one stands turned
    y.spaces(6, 3);
    type(y, "i");
    due(y.set(0, true), 0);
    y.lock(0, 0);
    due(y.lift(1), 0);
    due(y.proof(1), 1);
    due(y.printed(0), '=');
    throwing(INDEX, y, () -> y.printed(1));
    due(y.form(0, 2), 1);
    due(y.form(1, 2), 1);
  }

  private static void unlocking() {
    part = "15";
    LeadCases x = new LeadCases();
    x.measure(20);
    x.cast(0, 0, 6); // a: 0 to 5
    x.cast(0, 1, 1); // b: 6
    spaces(x, 9);
    x.foul(0, 1, 0);
    setLine(x, 0, "aa"); // 6, 5
    setLine(x, 0, "a"); // 4
    setLine(x, 0, "aa"); // 3, 2
    setLine(x, 0, "a"); // 1
    throwing(INDEX, x, () -> x.unlock(0));
    x.lock(1, 2);
    throwing(INDEX, x, () -> x.unlock(1));
    due(x.unlock(0), 3);
    due(x.lines(), 2);
    due(x.sortAt(0, 0), 6);
    due(x.sortAt(1, 0), 1);
    due(x.top(0, 0), 3); // 4, then 2, then 3
    due(x.foul(0, 0, 2), 3);
    due(x.foul(0, 0, 2), 2);
    due(x.foul(0, 0, 2), 4);
    due(x.form(0, 0), LeadCases.BROKEN);
    due(x.form(0, 1), 0);
    throwing(STATE, x, () -> x.unlock(0));
    throwing(STATE, x, () -> x.lift(0));
    x.lock(0, 1);
    due(x.lift(1), 0);
    due(x.unlock(1), 3); // a sound one too
    due(x.lines(), 0);
    due(x.top(0, 1), 6);
    for (int units : new int[] {1, 2, 3, 4, 6}) due(x.inSpaces(units), 9);

    LeadCases y = wornForm();
    y.mend(1, 0);
    due(y.unlock(0), 1); // a is melted, b is not
    due(y.sort(0, 3), LeadCases.MELTED);
    due(y.top(0, 1), 1);
    throwing(STATE, y, () -> y.unlock(0));

    LeadCases z = new LeadCases(); // broken by lifting
    z.cast(0, 0, 1);
    setLine(z, 0, "a");
    z.lock(0, 0);
    z.lift(0);
    throwing(STATE, z, () -> z.unlock(0));
  }

  // ---- 16 to 24, 26

  private static void asking() {
    LeadCases x = new LeadCases();
    x.measure(30);
    x.cast(0, 0, 3); // a: 0, 1, 2
    x.cast(0, 8, 2); // i: 3, 4
    x.cast(1, 12, 1); // m: 5
    x.spaces(3, 2);
    x.spaces(1, 1);
    x.foul(0, 8, 0); // 4 on top of a
    type(x, "a  ba");
    x.set(0, true); // 4, 2 turned, 1: 10 units
    int[][] outside = {{-1, 0}, {2, 0}, {0, -1}, {0, 29}, {Integer.MAX_VALUE, 0}, {0, Integer.MIN_VALUE}};
    for (int[] at : outside) {
      part = "16";
      throwing(INDEX, x, () -> x.inBox(at[0], at[1]));
      part = "17";
      throwing(INDEX, x, () -> x.top(at[0], at[1]));
      part = "27";
      throwing(INDEX, x, () -> x.lead(at[0], at[1]));
      part = "28";
      throwing(INDEX, x, () -> x.leadAnew(at[0], at[1]));
    }
    part = "16";
    due(x.inBox(0, 0), 1);
    due(x.inBox(1, 12), 1);
    part = "17";
    due(x.top(0, 0), 0);
    due(x.top(0, 8), 3);
    part = "18";
    due(x.inSpaces(3), 0);
    due(x.inSpaces(1), 0);
    for (int units : new int[] {-1, 0, 5, 7}) throwing(RANGE, x, () -> x.inSpaces(units));
    part = "19";
    toldDue(x, 5, 1, 12, 0, LeadCases.BOX, 12, 0, 7);
    toldDue(x, 2, 0, 0, 0, LeadCases.LINE, 0, 1, 4);
    toldDue(x, 4, 0, 8, 0, LeadCases.LINE, 0, 0, 2);
    throwing(INDEX, x, () -> x.sort(6, 0));
    throwing(INDEX, x, () -> x.sort(-1, 7));
    throwing(RANGE, x, () -> x.sort(5, 7));
    throwing(RANGE, x, () -> x.sort(5, -1));
    for (int box = 0; box < 29; box++) {
      LeadCases y = new LeadCases();
      y.cast(0, box, 1);
      y.cast(1, box, 1);
      int width = "mw".indexOf('a' + box) >= 0 ? 6 : "rstf".indexOf('a' + box) >= 0 ? 3 : 4;
      if (box >= 26 || "ijl".indexOf('a' + box) >= 0) width = 2;
      due(y.sort(0, 6), width);
      due(y.sort(1, 6), width + 1);
    }
    part = "20";
    due(x.lines(), 1);
    part = "21";
    int[] line = {0, 3, 1, 13, LeadCases.NONE, 2, 0, 4};
    for (int what = 0; what < 8; what++) due(x.line(0, what), line[what]);
    throwing(INDEX, x, () -> x.line(1, 8));
    throwing(INDEX, x, () -> x.line(-1, 0));
    throwing(RANGE, x, () -> x.line(0, 8));
    throwing(RANGE, x, () -> x.line(0, -1));
    part = "22";
    due(x.sortAt(0, 0), 4);
    due(x.sortAt(0, 1), 2);
    due(x.sortAt(0, 2), 1);
    throwing(INDEX, x, () -> x.sortAt(0, 3));
    throwing(INDEX, x, () -> x.sortAt(0, -1));
    throwing(INDEX, x, () -> x.sortAt(1, 0));
    part = "23";
    due(x.gap(0, 0), 3);
    throwing(INDEX, x, () -> x.gap(0, 1));
    throwing(INDEX, x, () -> x.gap(0, -1));
    throwing(INDEX, x, () -> x.gap(1, 0));
    part = "24, 26";
    x.lock(0, 0);
    due(x.form(0, 0), LeadCases.LOCKED);
    due(x.form(0, 1), 1);
    due(x.form(0, 2), 0);
    throwing(INDEX, x, () -> x.form(1, 3));
    throwing(INDEX, x, () -> x.form(-1, 0));
    throwing(RANGE, x, () -> x.form(0, 3));
    throwing(RANGE, x, () -> x.form(0, -1));
    due(x.pie(), 0);
    x.lift(0);
    due(x.pie(), 3);
    toldDue(x, 2, 0, 0, 0, LeadCases.PIE, 1, 0, 4);
  }

  private static void countingLead() {
    part = "27, 28";
    LeadCases x = new LeadCases();
    x.measure(20);
    x.cast(0, 0, 4);
    x.cast(1, 0, 2);
    x.cast(0, 1, 1);
    leadDue(x, 0, 0, 4);
    leadDue(x, 1, 0, 2);
    x.foul(0, 0, 1);
    leadDue(x, 0, 0, 4);
    leadDue(x, 0, 1, 1);
    setLine(x, 0, "ab"); // an a stands for b
    leadDue(x, 0, 0, 4);
    leadDue(x, 0, 1, 1);
    x.lock(0, 0);
    x.lift(0);
    due(x.pie(), 2);
    leadDue(x, 0, 0, 4);
    x.sortPie(1);
    leadDue(x, 0, 0, 4);
    x.cast(0, 0, 3);
    leadDue(x, 0, 0, 7);

    LeadCases y = wornForm();
    leadDue(y, 0, 0, 1);
    leadDue(y, 0, 12, 1);
    y.unlock(0);
    leadDue(y, 0, 0, 0);
    leadDue(y, 0, 12, 0);
    leadDue(y, 0, 1, 1);
  }

  private static void lookingAhead() {
    part = "29";
    LeadCases x = new LeadCases();
    x.measure(20);
    x.cast(0, 0, 7);
    x.cast(0, 8, 2);
    x.cast(0, 28, 1);
    due(x.ahead(0), 0);
    type(x, "   ");
    due(x.ahead(0), 0);
    type(x, "aa i aaaaaa i aaa");
    String before = told(x);
    due(x.ahead(0), 2); // aa i and aaaa-; for aa i an a is missing
    due(x.ahead(1), 0);
    same(x, before);
    x.cast(0, 0, 1);
    due(x.ahead(0), 3); // for aaa nothing is left
    x.cast(0, 0, 2);
    due(x.ahead(0), 3);
    x.cast(0, 1, 1);
    x.foul(0, 1, 0); // who takes one does not look
    due(x.ahead(0), 4);
    for (int line = 0; line < 4; line++) due(x.set(0, false), line);
    due(x.ahead(0), 0);
    throwing(INDEX, x, () -> x.ahead(2));
    throwing(INDEX, x, () -> x.ahead(-1));
  }

  // ---- helpers

  /** A shop with enough of some sorts, and without spaces. */
  private static LeadCases shop(int measure) {
    LeadCases x = new LeadCases();
    x.measure(measure);
    x.cast(0, 0, 40);
    x.cast(0, 1, 20);
    for (int box : new int[] {8, 11, 12, 18, 26, 27, 28}) x.cast(0, box, 9);
    for (int box : new int[] {0, 1, 8, 12, 18, 28}) x.cast(1, box, 9);
    return x;
  }

  /** The call throws just that, and all that can be asked is the same behind it. */
  private static void throwing(Class<?> due, LeadCases x, Runnable call) {
    checks++;
    String before = told(x);
    Class<?> thrown = null;
    try {
      call.run();
    } catch (RuntimeException e) {
      thrown = e.getClass();
    }
    if (thrown != due) report("threw " + thrown + ", due is " + due);
    same(x, before);
  }

  private static void same(LeadCases x, String before) {
    checks++;
    if (!told(x).equals(before)) report("something has changed");
  }

  /** All that can be asked, in a text. */
  private static String told(LeadCases x) {
    StringBuilder out = new StringBuilder();
    for (int font = 0; font < 2; font++) {
      for (int box = 0; box < 29; box++) {
        out.append(x.inBox(font, box)).append(' ').append(x.top(font, box)).append(' ');
        out.append(x.lead(font, box)).append(' ').append(x.leadAnew(font, box)).append(' ');
      }
      out.append(x.ahead(font)).append('\n');
    }
    for (int units : new int[] {1, 2, 3, 4, 6}) out.append(x.inSpaces(units)).append(' ');
    out.append(x.pie()).append(' ').append(x.lines()).append('\n');
    for (int sort = 0; allTold(out, x, sort, 0); sort++) out.append('\n');
    for (int line = 0; allTold(out, x, line, 1); line++) {
      for (int place = 0; place < x.line(line, 1); place++) out.append(x.sortAt(line, place)).append(' ');
      for (int gap = 0; gap < x.line(line, 2); gap++) out.append(x.gap(line, gap)).append(' ');
    }
    for (int form = 0; allTold(out, x, form, 2); form++) out.append('\n');
    for (int place = 0; allTold(out, x, place, 3); place++) out.append('\n');
    return out.toString();
  }

  /** Appends all that is told of a sort, a line, a form or a printed sign; answers whether there is one. */
  private static boolean allTold(StringBuilder out, LeadCases x, int number, int kind) {
    try {
      for (int what = 0; what < new int[] {7, 8, 3, 1}[kind]; what++) {
        int told = kind == 0 ? x.sort(number, what) : kind == 1 ? x.line(number, what)
            : kind == 2 ? x.form(number, what) : x.printed(number);
        out.append(told).append(' ');
      }
      return true;
    } catch (IndexOutOfBoundsException e) {
      return false;
    }
  }
}
