import java.util.function.IntSupplier;

/**
 * All that the calls of a shop can show, in parts, as each part needs a shop of its own: some of them change it,
 * and nothing is promised beyond 512 calls.
 */
final class Shown {
  static final int PARTS = 21;

  private static final int MOST_CALLS = 300;
  private static final int SORTS = 40, LINES = 3, PLACES = 10;

  private final LeadCases shop;
  private final StringBuilder out = new StringBuilder();
  private int calls = 0;

  private Shown(LeadCases shop) {
    this.shop = shop;
  }

  static String part(LeadCases shop, int part) {
    Shown shown = new Shown(shop);
    if (part == 0) shown.boxes();
    else if (part == 1) shown.lead();
    else if (part < 10) shown.sorts((part - 2) * SORTS);
    else if (part < 14) shown.lines((part - 10) * LINES);
    else if (part == 14) shown.formsAndProof();
    else if (part == 15) shown.lengthOfText();
    else if (part == 16) shown.signsOfText();
    else if (part == 17) shown.piles(0);
    else if (part == 18) shown.piles(1);
    else if (part == 19) shown.mends();
    else shown.ends();
    return shown.out.toString();
  }

  /** Asks; answers whether nothing was thrown. */
  private boolean ask(IntSupplier call) {
    if (calls++ >= MOST_CALLS) return false;
    String answer = Checks.answer(call);
    out.append(answer).append(' ');
    return !answer.endsWith("Exception");
  }

  private void boxes() {
    for (int i = 0; i < 58; i++) {
      int font = i / 29;
      int box = i % 29;
      ask(() -> shop.inBox(font, box));
      ask(() -> shop.top(font, box));
    }
    for (int units : new int[] {1, 2, 3, 4, 6}) ask(() -> shop.inSpaces(units));
    ask(shop::pie);
    ask(shop::lines);
    ask(() -> shop.ahead(0));
    ask(() -> shop.ahead(1));
  }

  private void lead() {
    for (int i = 0; i < 58; i++) {
      int font = i / 29;
      int box = i % 29;
      ask(() -> shop.lead(font, box));
      ask(() -> shop.leadAnew(font, box));
    }
  }

  private void sorts(int first) {
    for (int i = first; i < first + SORTS; i++) {
      int sort = i;
      for (int w = 0; w < 7; w++) {
        int what = w;
        if (!ask(() -> shop.sort(sort, what))) return;
      }
    }
  }

  private void lines(int first) {
    for (int i = first; i < first + LINES; i++) {
      int line = i;
      for (int w = 0; w < 8; w++) {
        int what = w;
        if (!ask(() -> shop.line(line, what))) return;
      }
      for (int p = 0; p < 60; p++) {
        int place = p;
        if (!ask(() -> shop.sortAt(line, place))) break;
      }
      for (int g = 0; g < 30; g++) {
        int gap = g;
        if (!ask(() -> shop.gap(line, gap))) break;
      }
    }
  }

  private void formsAndProof() {
    for (int f = 0; f <= 4; f++) {
      int form = f;
      for (int w = 0; w < 3; w++) {
        int what = w;
        if (!ask(() -> shop.form(form, what))) break;
      }
    }
    for (int p = 0; p < MOST_CALLS; p++) {
      int place = p;
      if (!ask(() -> shop.printed(place))) break;
    }
  }

  private void lengthOfText() {
    ask(() -> shop.type('z'));
    ask(shop::clear);
    ask(() -> shop.type('z'));
  }

  /** Sets the text as far as it goes, in each way. */
  private void signsOfText() {
    for (int i = 0; i <= 12; i++) ask(() -> shop.putBack(0));
    for (int i = 0; i <= 12; i++) {
      ask(() -> shop.set(0, false));
      ask(() -> shop.set(1, false));
      ask(() -> shop.set(0, true));
      int last = shop.lines() - 1;
      ask(() -> shop.line(last, 5));
      for (int p = 0; p < PLACES; p++) {
        int place = p;
        if (!ask(() -> shop.sortAt(last, place))) break;
      }
    }
    ask(shop::clear);
  }

  /** Takes the piles of a case down, each on top of the one ahead of it. */
  private void piles(int font) {
    for (int b = 0; b < 29; b++) {
      int box = b;
      for (int i = 0; i < MOST_CALLS; i++) {
        if (!ask(() -> shop.foul(font, box, (box + 28) % 29))) break;
      }
    }
  }

  private void mends() {
    for (int i = 0; i < 12; i++) {
      int line = i;
      for (int p = 0; p < PLACES; p++) {
        int place = p;
        if (ask(() -> shop.mend(line, place))) ask(() -> shop.line(line, 7));
      }
    }
  }

  /** Ends all forms and lines, and the pie. */
  private void ends() {
    for (int f = 0; f < 4; f++) {
      int form = f;
      ask(() -> shop.proof(form));
      ask(() -> shop.lift(form));
      ask(() -> shop.proof(form));
      ask(() -> shop.unlock(form));
    }
    for (int i = 0; i <= 12; i++) ask(() -> shop.putBack(0));
    for (int i = 0; i < 12; i++) ask(() -> shop.sortPie(1));
    for (int units : new int[] {1, 2, 3, 4, 6}) ask(() -> shop.inSpaces(units));
    ask(() -> shop.measure(60));
  }
}
