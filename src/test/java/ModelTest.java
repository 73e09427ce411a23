import java.util.ArrayList;
import java.util.List;
import java.util.Random;
import java.util.TreeMap;
import java.util.function.IntSupplier;

/** Random runs of calls, each answer and all that can be asked compared with NaiveShop. */
public final class ModelTest {
  private static final int RUNS = 400;
  private static final int CALLS = 512;
  private static final int ENOUGH = 5;
  private static final String[] MUST_HAPPEN = {
    "broken", "broken in part", "divided", "gap too wide", "last line", "melted", "mended from a box",
    "mended from the pie", "mended from within the pie", "mended in a sound form", "not mended",
    "not set, first sign", "not set, later sign", "not set, no hyphen", "open gap",
    "printed without a blank", "rest below 0", "rest too small for plain gaps", "shared gaps", "sound",
    "turned", "turned, with the face asked for", "unlocked"};

  private static final TreeMap<String, Integer> seen = new TreeMap<>();
  private static int wrong = 0;

  public static void main(String[] args) {
    for (int run = 0; run < RUNS && wrong == 0; run++) new ModelTest(run).run();
    int unseen = 0;
    for (String what : MUST_HAPPEN) {
      if (wrong == 0 && seen.getOrDefault(what, 0) < ENOUGH) {
        unseen++;
        System.out.println("the runs hardly reach: " + what + ", " + seen.getOrDefault(what, 0));
      }
    }
    if (args.length > 0) System.out.println(seen);
    System.out.println(wrong == 0 ? RUNS + " runs answer as the model" : "the model answers otherwise");
    if (wrong != 0 || unseen != 0) System.exit(1);
  }

  private final int seed;
  private final Random random;
  private final LeadCases shop = new LeadCases();
  private final NaiveShop model = new NaiveShop(seen);
  private final List<String> calls = new ArrayList<>();
  private final String signs;
  private final int blanks;
  private final int wildness;
  private final int spaceAmount;

  private ModelTest(int seed) {
    this.seed = seed;
    random = new Random(seed);
    String[] alphabets = {"ab", "aei", "ij.m", "i", "ia", "abmir.", "aemt-", "abcdefghijklmnopqrstuvwxyz.,-", "li.,-", "mw", "abrs"};
    signs = alphabets[random.nextInt(alphabets.length)];
    blanks = 1 + random.nextInt(6);
    wildness = random.nextInt(30);
    spaceAmount = new int[] {2, 10, 100}[random.nextInt(3)];
  }

  private int upTo(int n) { return n <= 0 ? 0 : random.nextInt(n); }

  /** Mostly below n, now and then out of any range. */
  private int index(int n) {
    if (random.nextInt(1000) < wildness) {
      int[] wild = {-1, n, n + 1, Integer.MIN_VALUE, Integer.MAX_VALUE, 29, -29, 2};
      return wild[random.nextInt(wild.length)];
    }
    return upTo(n);
  }

  private int within(int low, int high) { return low + index(high - low + 1); }

  private int box() {
    if (random.nextInt(1000) < wildness) return index(29);
    return NaiveShop.FACES.indexOf(signs.charAt(upTo(signs.length())));
  }

  private int font() { return random.nextInt(1000) < wildness ? index(2) : random.nextInt(8) == 0 ? 1 : 0; }

  private int units() {
    int[] all = {1, 2, 3, 4, 6};
    return random.nextInt(1000) < wildness ? index(8) : all[upTo(5)];
  }

  private char sign() {
    if (random.nextInt(1000) < wildness) return (char) random.nextInt(300);
    if (random.nextInt(blanks + 1) == 0) return ' ';
    return signs.charAt(upTo(signs.length()));
  }

  private void run() {
    if (random.nextInt(6) != 0) step("measure", 20 + random.nextInt(new int[] {5, 20, 40, 120}[random.nextInt(4)]), 0, 0);
    int casts = 1 + random.nextInt(8);
    for (int i = 0; i < casts; i++) step("cast", font(), box(), 1 + random.nextInt(40));
    if (random.nextInt(3) == 0) foulMuch();
    for (int i = 0; i < 8; i++) step("spaces", units(), 1 + random.nextInt(spaceAmount), 0);
    while (calls.size() < CALLS && wrong == 0) randomStep();
  }

  /** Puts wide sorts where narrow ones are asked for, so that lines grow too wide. */
  private void foulMuch() {
    int from = random.nextBoolean() ? 12 : box();
    int to = signs.length() < 3 ? 8 : box();
    step("cast", 0, from, 20 + random.nextInt(20));
    int times = 5 + random.nextInt(30);
    for (int i = 0; i < times; i++) step("foul", 0, from, to);
  }

  private void randomStep() {
    int lines = model.lines();
    int forms = model.frames.size();
    int kind = random.nextInt(100);
    if (kind < 40) typeSome();
    else if (kind < 52) step("set", font(), random.nextInt(2), 0);
    else if (kind < 56) step("foul", font(), box(), box());
    else if (kind < 59) step("putBack", index(lines), 0, 0);
    else if (kind < 69) mendSomething(lines);
    else if (kind < 72) step("lock", index(lines), index(lines), 0);
    else if (kind < 78) step("lift", index(forms), 0, 0);
    else if (kind < 88) step("proof", index(forms), 0, 0);
    else if (kind < 89) step("unlock", index(forms), 0, 0);
    else if (kind < 92) step("sortPie", within(1, random.nextInt(4) == 0 ? 300 : 3), 0, 0);
    else if (kind < 95) step("spaces", units(), within(1, spaceAmount), 0);
    else if (kind < 97) step("cast", font(), box(), within(1, 3));
    else if (kind < 98) step("measure", within(20, 200), 0, 0);
    else if (random.nextInt(4) == 0) step("clear", 0, 0, 0);
    else wildQuestion();
  }

  private void typeSome() {
    int number = random.nextInt(6) == 0 ? 15 : 1;
    for (int i = 0; i < number; i++) step("type", sign(), 0, 0);
  }

  private void mendSomething(int lines) {
    int line = index(lines);
    int place = index(4);
    if (line >= 0 && line < lines && random.nextInt(4) != 0 && model.line(line, 6) >= 0) place = model.line(line, 6);
    step("mend", line, place, 0);
  }

  private void step(String name, int a, int b, int c) {
    calls.add(name + "(" + a + ", " + b + ", " + c + ")");
    compare(name, () -> change(name, a, b, c), () -> changeModel(name, a, b, c));
    compareState();
  }

  private int change(String name, int a, int b, int c) {
    switch (name) {
      case "measure": return shop.measure(a);
      case "cast": return shop.cast(a, b, c);
      case "spaces": return shop.spaces(a, b);
      case "type": return shop.type((char) a);
      case "clear": return shop.clear();
      case "set": return shop.set(a, b != 0);
      case "foul": return shop.foul(a, b, c);
      case "putBack": return shop.putBack(a);
      case "mend": return shop.mend(a, b);
      case "lock": return shop.lock(a, b);
      case "lift": return shop.lift(a);
      case "proof": return shop.proof(a);
      case "unlock": return shop.unlock(a);
      case "sortPie": return shop.sortPie(a);
      default: throw new AssertionError(name);
    }
  }

  private int changeModel(String name, int a, int b, int c) {
    switch (name) {
      case "measure": return model.measure(a);
      case "cast": return model.cast(a, b, c);
      case "spaces": return model.spaces(a, b);
      case "type": return model.type((char) a);
      case "clear": return model.clear();
      case "set": return model.set(a, b != 0);
      case "foul": return model.foul(a, b, c);
      case "putBack": return model.putBack(a);
      case "mend": return model.mend(a, b);
      case "lock": return model.lock(a, b);
      case "lift": return model.lift(a);
      case "proof": return model.proof(a);
      case "unlock": return model.unlock(a);
      case "sortPie": return model.sortPie(a);
      default: throw new AssertionError(name);
    }
  }

  private static String answer(IntSupplier call) {
    try {
      return "" + call.getAsInt();
    } catch (RuntimeException e) {
      return e.getClass().getSimpleName();
    }
  }

  private void compare(String what, IntSupplier ours, IntSupplier theirs) {
    String got = answer(ours);
    String due = answer(theirs);
    if (got.equals(due)) return;
    wrong++;
    if (wrong > 5) return;
    System.out.println("run " + seed + ", call " + calls.size() + ": " + what + " answered " + got + ", due is " + due);
    if (wrong == 1) System.out.println("  " + String.join("\n  ", calls));
  }

  private void compareState() {
    for (int f = 0; f < 2; f++) {
      int font = f;
      for (int b = 0; b < 29; b++) {
        int box = b;
        compare("inBox " + f + " " + b, () -> shop.inBox(font, box), () -> model.inBox(font, box));
        compare("top " + f + " " + b, () -> shop.top(font, box), () -> model.top(font, box));
        compare("lead " + f + " " + b, () -> shop.lead(font, box), () -> model.lead(font, box));
        compare("leadAnew " + f + " " + b, () -> shop.leadAnew(font, box), () -> model.lead(font, box));
      }
      compare("ahead " + f, () -> shop.ahead(font), () -> model.ahead(font));
    }
    for (int unit : new int[] {1, 2, 3, 4, 6}) {
      compare("inSpaces " + unit, () -> shop.inSpaces(unit), () -> model.inSpaces(unit));
    }
    // There are many sorts, so of those all are asked for now and then only.
    for (int i = calls.size() % 3; i <= model.all.size(); i += 3) {
      int sort = i;
      for (int w = 0; w < 7; w++) {
        int what = w;
        compare("sort " + i + " " + w, () -> shop.sort(sort, what), () -> model.sort(sort, what));
      }
    }
    compareLines();
    for (int i = -1; i <= 4; i++) {
      int form = i;
      for (int w = 0; w < 3; w++) {
        int what = w;
        compare("form " + i + " " + w, () -> shop.form(form, what), () -> model.form(form, what));
      }
    }
    compare("pie", shop::pie, model::pie);
    for (int i = -1; i <= model.paper.length(); i++) {
      int place = i;
      compare("printed " + i, () -> shop.printed(place), () -> model.printed(place));
    }
  }

  private void compareLines() {
    compare("lines", shop::lines, model::lines);
    for (int i = -1; i <= model.lines(); i++) {
      int line = i;
      for (int w = 0; w < 8; w++) {
        int what = w;
        compare("line " + i + " " + w, () -> shop.line(line, what), () -> model.line(line, what));
      }
      boolean there = i >= 0 && i < model.lines();
      int sorts = there ? model.line(i, 1) : 0;
      int gaps = there ? model.line(i, 2) : 0;
      for (int p = -1; p <= sorts; p++) {
        int place = p;
        compare("sortAt " + i + " " + p, () -> shop.sortAt(line, place), () -> model.sortAt(line, place));
      }
      for (int g = -1; g <= gaps; g++) {
        int gap = g;
        compare("gap " + i + " " + g, () -> shop.gap(line, gap), () -> model.gap(line, gap));
      }
    }
  }

  /** Questions with arguments of any kind. */
  private void wildQuestion() {
    int a = random.nextInt(3) == 0 ? random.nextInt() : random.nextInt(40) - 4;
    int b = random.nextInt(3) == 0 ? random.nextInt() : random.nextInt(40) - 4;
    calls.add("a question of " + a + ", " + b);
    compare("inBox", () -> shop.inBox(a, b), () -> model.inBox(a, b));
    compare("top", () -> shop.top(a, b), () -> model.top(a, b));
    compare("inSpaces", () -> shop.inSpaces(a), () -> model.inSpaces(a));
    compare("sort", () -> shop.sort(a, b), () -> model.sort(a, b));
    compare("line", () -> shop.line(a, b), () -> model.line(a, b));
    compare("sortAt", () -> shop.sortAt(a, b), () -> model.sortAt(a, b));
    compare("gap", () -> shop.gap(a, b), () -> model.gap(a, b));
    compare("form", () -> shop.form(a, b), () -> model.form(a, b));
    compare("printed", () -> shop.printed(a), () -> model.printed(a));
    compare("lead", () -> shop.lead(a, b), () -> model.lead(a, b));
    compare("leadAnew", () -> shop.leadAnew(a, b), () -> model.lead(a, b));
    compare("ahead", () -> shop.ahead(a), () -> model.ahead(a));
  }
}
