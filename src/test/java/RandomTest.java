import java.math.BigInteger;
import java.util.Random;

/** Promises 1 to 10: random texts, read and run by the program and by the oracle. */
public final class RandomTest {
  private static final int OBJECTS = 6000;
  private static final int TEXTS = 4;
  /** Most places are among these, and few others are asked for: an object holds for 512 calls. */
  private static final int USED_VARIABLES = 12;
  private static final int OTHER_VARIABLES = 60;
  private static final String[] JOINTS =
      {"+", "-", "*", "/", "MOD", "AND", "OR", "XOR", "+", "-", "*", "/"};
  private static final String[] COMPARISONS = {"EQ", "NE", "LT", "LE", "GT", "GE"};
  private static final String[] FUNCTIONS = {"ABS", "FIX", "FUP", "ROOT"};
  private static final String[] BLANKS = {" ", "\t", "\r", "(c)", "()", "(a(b)", "  "};
  private static final String[] ODD = {"(", ")", "\n", "[", "]", "-", "#", "=", ".", "1", "9",
      "N", "E", "D", "O", "IF", "END", "x", "\u0000", "\u00e9", "\u007f", " ", "(\t)", "GT",
      "1234567", "1.2345", "@", "DO", "WHILE[1]DO1\n", "END1\n", "N1\n", "GOTO1\n"};
  private static final long[] EDGES = {0, 1, -1, 999, 1000, -1000, 1500, -1500, 199000, 200000,
      1000000000000L, -1000000000000L, 999999999999L, 31622776L, 31622777L, 1000000000L,
      1000000001L, 1000000000001L, Long.MIN_VALUE, Long.MAX_VALUE};

  private final Random random;
  private final int[] counts = new int[16];
  private int goodTexts = 0;

  private RandomTest(long seed) {
    random = new Random(seed);
  }

  public static void main(String[] args) {
    int objects = args.length > 0 ? Integer.parseInt(args[0]) : OBJECTS;
    RandomTest test = new RandomTest(args.length > 1 ? Long.parseLong(args[1]) : 20261118);
    for (int i = 0; i < objects; i++) {
      test.oneObject();
    }
    test.everyAnswerWasSeen();
    Checks.finish();
  }

  /** A test that never meets a good text or an alarm would test nothing. */
  private void everyAnswerWasSeen() {
    Checks.due("many good texts", goodTexts > OBJECTS / 4, true);
    for (int alarm : new int[] {0, 1, 2, 4, 15}) {
      Checks.due("many runs with " + alarm, counts[alarm] > OBJECTS / 100, true);
    }
  }

  private int below(int bound) {
    return random.nextInt(bound);
  }

  private String one(String[] of) {
    return of[below(of.length)];
  }

  private void oneObject() {
    ValueBlocks x = new ValueBlocks();
    Oracle oracle = new Oracle();
    for (int i = 0; i < TEXTS; i++) {
      putVariables(x, oracle);
      String text = spoiled(program());
      int lines = oracle.read(Checks.bytes(text));
      Checks.due("read of:\n" + text, Checks.read(x, text), lines);
      Checks.due("place of:\n" + text, x.place(), oracle.place);
      goodTexts += lines > 0 ? 1 : 0;
      for (int runs = below(3); runs >= 0; runs--) {
        run(x, oracle, text);
      }
    }
    for (int i = 0; i < OTHER_VARIABLES; i++) {
      int n = USED_VARIABLES + 1 + below(199 - USED_VARIABLES);
      Checks.due("#" + n, x.variable(n), oracle.variables[n].longValue());
    }
  }

  private void putVariables(ValueBlocks x, Oracle oracle) {
    for (int i = below(6); i > 0; i--) {
      int n = below(12);
      long value = EDGES[below(EDGES.length)];
      boolean fits = n > 0 && Math.abs(value) <= 1000000000000L && value != Long.MIN_VALUE;
      if (fits) {
        oracle.variables[n] = BigInteger.valueOf(value);
      }
      Checks.due("put " + n + ", " + value, x.put(n, value), fits);
    }
  }

  private void run(ValueBlocks x, Oracle oracle, String text) {
    int fuel = below(40) == 0 ? EDGE_FUELS[below(EDGE_FUELS.length)] : below(60);
    int alarm = oracle.run(fuel);
    Checks.due("run(" + fuel + ") of:\n" + text, x.run(fuel), alarm);
    Checks.due("line of:\n" + text, x.line(), oracle.alarmLine);
    Checks.due("steps of:\n" + text, x.steps(), oracle.steps);
    for (int n = 1; n <= USED_VARIABLES; n++) {
      Checks.due("#" + n + " of:\n" + text, x.variable(n), oracle.variables[n].longValue());
    }
    if (alarm >= 0) {
      counts[alarm]++;
    }
  }

  private static final int[] EDGE_FUELS = {-1, 0, 30001, 3000, Integer.MIN_VALUE};

  private String program() {
    StringBuilder text = new StringBuilder();
    int lines = below(9);
    int open = 0;
    for (int i = 0; i < lines; i++) {
      if (below(3) == 0) {
        text.append("N").append(blank()).append(below(6) == 0 ? "0" : "").append(i);
      }
      text.append(blank());
      int form = below(12);
      if (form < 6) {
        text.append("#").append(place(0)).append(blank()).append("=").append(sum(0));
      } else if (form == 6) {
        text.append("IF[").append(test(1)).append("]GOTO").append(blank()).append(below(lines));
      } else if (form == 7 && open < 3) {
        open++;
        text.append("WHILE[").append(test(1)).append("]DO").append(blank()).append(open);
      } else if (form == 8 && below(3) == 0) {
        text.append("GOTO").append(blank()).append(below(lines));
      } else if (form > 8 && open > 0) {
        text.append("END").append(blank()).append(open);
        open--;
      }
      text.append(blank()).append("\n");
    }
    for (; open > 0; open--) {
      text.append("END").append(open).append(open > 1 || below(2) == 0 ? "\n" : "");
    }
    return text.toString();
  }

  private String spoiled(String text) {
    StringBuilder spoiled = new StringBuilder(text);
    if (below(2) == 0) {
      return text;
    }
    for (int i = below(3); i >= 0; i--) {
      int at = below(spoiled.length() + 1);
      if (below(3) > 0) {
        spoiled.insert(at, one(ODD));
      } else if (below(2) == 0) {
        spoiled.delete(at, Math.min(spoiled.length(), at + 1 + below(3)));
      } else {
        int from = below(at + 1);
        spoiled.append(spoiled.substring(from, at));
      }
    }
    return spoiled.toString();
  }

  private String blank() {
    return below(8) == 0 ? one(BLANKS) : "";
  }

  private String number() {
    switch (below(7)) {
      case 0:
        return "0";
      case 1:
        return below(10) + "." + below(1000);
      case 2:
        return below(1000000) + ".";
      case 3:
        return below(1000000) + "." + below(10);
      case 4:
        return "999999.999";
      default:
        return "" + below(12);
    }
  }

  private String place(int depth) {
    if (below(4) > 0) {
      return below(20) == 0 ? "" + below(220) : "" + (1 + below(11));
    }
    return "[" + (below(3) > 0 ? "" + (1 + below(11)) : test(depth + 1)) + "]";
  }

  private String test(int depth) {
    if (below(2) == 0) {
      return sum(depth);
    }
    return sum(depth) + blank() + one(COMPARISONS) + blank() + sum(depth);
  }

  private String sum(int depth) {
    StringBuilder sum = new StringBuilder(factor(depth));
    for (int more = below(depth > 2 ? 2 : 4); more > 0; more--) {
      sum.append(blank()).append(one(JOINTS)).append(blank()).append(factor(depth));
    }
    return sum.toString();
  }

  private String factor(int depth) {
    if (depth < 24 && below(60) == 0) {
      return wrapped(depth);
    }
    switch (below(depth < 4 ? 9 : 6)) {
      case 0:
      case 1:
        return number();
      case 2:
      case 3:
        return "#" + (depth < 4 ? place(depth) : "" + (1 + below(11)));
      case 4:
        return "" + below(6);
      case 5:
        return "-" + blank() + (depth < 4 ? factor(depth + 1) : number());
      case 6:
        return one(FUNCTIONS) + blank() + "[" + test(depth + 1) + "]";
      default:
        return "[" + test(depth + 1) + blank() + "]";
    }
  }

  /** Deep brackets and minuses, around as many as may stand in one another. */
  private String wrapped(int depth) {
    StringBuilder front = new StringBuilder();
    StringBuilder back = new StringBuilder();
    for (int i = 17 + below(5) - depth; i > 0; i--) {
      if (below(2) == 0) {
        front.append("-");
      } else {
        front.append("[").append(below(3) == 0 ? number() + one(JOINTS) : "");
        back.insert(0, "]");
      }
    }
    return front + number() + back;
  }
}
