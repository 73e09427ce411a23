import java.util.function.IntSupplier;

/** What the tests have in common: what is due of a call, and short ways to make shops. */
class Checks {
  static final Class<?> INDEX = IndexOutOfBoundsException.class;
  static final Class<?> RANGE = IllegalArgumentException.class;
  static final Class<?> STATE = IllegalStateException.class;

  static int checks = 0;
  static int wrong = 0;
  /** What is tested, for the reports. */
  static String part = "";

  static void due(long got, long want) {
    checks++;
    if (got != want) report("answered " + got + ", due is " + want);
  }

  static void due(String got, String want) {
    checks++;
    if (!got.equals(want)) report("answered " + got + ", due is " + want);
  }

  static void leadDue(LeadCases x, int font, int box, int want) {
    due(x.lead(font, box), want);
    due(x.leadAnew(font, box), want);
  }

  static void toldDue(LeadCases x, int sort, int... want) {
    for (int what = 0; what < want.length; what++) due(x.sort(sort, what), want[what]);
  }

  static void printedDue(LeadCases x, String want) {
    for (int i = 0; i < want.length(); i++) due(x.printed(i), want.charAt(i));
  }

  /** What a call answers, or the name of what it throws. */
  static String answer(IntSupplier call) {
    try {
      return String.valueOf(call.getAsInt());
    } catch (RuntimeException e) {
      return e.getClass().getSimpleName();
    }
  }

  static void report(String what) {
    wrong++;
    int line = 0;
    for (StackTraceElement call : new Throwable().getStackTrace()) {
      line = call.getLineNumber();
      boolean helper = call.getClassName().matches("Checks|Shops") || call.getMethodName().matches(".*Due|throwing|same");
      if (!helper) break;
    }
    System.out.println("promise " + part + ", line " + line + ": " + what);
  }

  static void end() {
    System.out.println(wrong == 0 ? checks + " checks hold" : wrong + " of " + checks + " checks fail");
    if (wrong != 0) System.exit(1);
  }

  static void spaces(LeadCases x, int number) {
    for (int units : new int[] {1, 2, 3, 4, 6}) x.spaces(units, number);
  }

  static void type(LeadCases x, String signs) {
    for (char sign : signs.toCharArray()) x.type(sign);
  }

  static int setLine(LeadCases x, int font, String signs) {
    type(x, signs);
    return x.set(font, false);
  }

  static void emptyBox(LeadCases x, int font, int box, int other) {
    while (x.inBox(font, box) > 0) x.foul(font, box, other);
  }
}
