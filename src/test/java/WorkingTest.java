import java.math.BigInteger;

/**
 * The document's sentences on working out, each with the last case on the one side of its bound
 * and the first on the other.
 */
public final class WorkingTest {
  private static final long MOST = 1000000000000L;
  private static final long[] EDGES = {0, 1, -1, 2, -2, 3, 31, 32, 499, 500, -500, 999, -999, 1000,
      -1000, 1001, -1001, 1999, 2000, 31622, 31623, 31622776, 31622777, 1000000, 1000001,
      999999999, 1000000000, 1000000001, -1000000000, -1000000001, 999999999999L, MOST, -MOST,
      -999999999999L, MOST - 999, MOST - 1000, -MOST + 999};

  public static void main(String[] args) {
    plusAndMinusAsTheyAre();
    timesIsCutTowards0();
    dividedIsCutTowards0();
    dividedBy0();
    modIsRoundedDown();
    modBy0();
    andOrXor();
    bothSidesAreWorkedOut();
    tests();
    abs();
    fixIsNotAbove();
    fupIsNotBelow();
    rootIsTheGreatestNotAbove();
    rootBelow0();
    alarm4BeyondTheLimits();
    alarm4BehindEachOperation();
    placesAreWhole();
    placesAre1To199();
    placesAreWorkedOutFirst();
    allFromTheLeft();
    everyOperationOnEveryEdge();
    Checks.finish();
  }

  /** What the line #1 = sum answers, where #2 is a, #3 is b, and #1 is 77 before. */
  private static void due(String sum, long a, long b, int alarm, long worth) {
    ValueBlocks x = new ValueBlocks();
    x.put(1, 77);
    x.put(2, a);
    x.put(3, b);
    String call = sum + " of " + a + " and " + b;
    Checks.due("read of " + sum, Checks.read(x, "#1=" + sum), 1);
    Checks.due("run of " + call, x.run(1), alarm);
    Checks.due("line of " + call, x.line(), alarm == 0 ? 0 : 1);
    Checks.due(call, x.variable(1), alarm == 0 ? worth : 77);
    Checks.due("#2 of " + call, x.variable(2), a);
    Checks.due("#3 of " + call, x.variable(3), b);
  }

  private static void plusAndMinusAsTheyAre() {
    due("#2+#3", 1, 2, 0, 3);
    due("#2-#3", 1, 2, 0, -1);
    due("#2+#3", MOST - 1, 1, 0, MOST);
    due("#2+#3", MOST, 1, 4, 0);
    due("#2+#3", -MOST, -1, 4, 0);
    due("#2+#3", 1 - MOST, -1, 0, -MOST);
    due("#2-#3", 1 - MOST, 1, 0, -MOST);
    due("#2-#3", -MOST, 1, 4, 0);
    due("#2-#3", MOST - 1, -1, 0, MOST);
    due("#2-#3", MOST, -1, 4, 0);
    due("#2+#3", MOST, MOST, 4, 0);
    due("#2-#3", -MOST, MOST, 4, 0);
    due("#2-#3", MOST, MOST, 0, 0);
    due("-#2", MOST, 0, 0, -MOST);
    due("-#2", -MOST, 0, 0, MOST);
    due("-#2", 0, 0, 0, 0);
  }

  private static void timesIsCutTowards0() {
    due("#2*#3", 1, 999, 0, 0);
    due("#2*#3", 1, 1000, 0, 1);
    due("#2*#3", 1, 1999, 0, 1);
    due("#2*#3", 1, 2000, 0, 2);
    due("#2*#3", -1, 999, 0, 0);
    due("#2*#3", -1, 1000, 0, -1);
    due("#2*#3", 1, -1999, 0, -1);
    due("#2*#3", 1, -2000, 0, -2);
    due("#2*#3", -1, -999, 0, 0);
    due("#2*#3", -1, -1000, 0, 1);
    due("#2*#3", 0, -MOST, 0, 0);
    // 10^15 and 999 are cut to the most there may be; one more is not.
    due("#2*#3", 1691, 591366055589L, 0, MOST);
    due("#2*#3", -1691, 591366055589L, 0, -MOST);
    due("#2*#3", 73000, 13698630137L, 4, 0);
    due("#2*#3", -73000, 13698630137L, 4, 0);
    due("#2*#3", 591366055589L, -1691, 0, -MOST);
    due("#2*#3", 13698630137L, -73000, 4, 0);
    due("#2*#3", MOST, 1000, 0, MOST);
    due("#2*#3", MOST, 1001, 4, 0);
    due("#2*#3", MOST, MOST, 4, 0);
    due("#2*#3", -MOST, MOST, 4, 0);
    // Products whose 64 bits would look small.
    due("#2*#3", 1L << 32, 1L << 32, 4, 0);
    due("#2*#3", 1L << 39, 1L << 39, 4, 0);
    due("#2*#3", -(1L << 32), 1L << 32, 4, 0);
  }

  private static void dividedIsCutTowards0() {
    due("#2/#3", 1, 1001, 0, 0);
    due("#2/#3", 1, 1000, 0, 1);
    due("#2/#3", 2, 1001, 0, 1);
    due("#2/#3", 2, 1000, 0, 2);
    due("#2/#3", -1, 1001, 0, 0);
    due("#2/#3", -1, 1000, 0, -1);
    due("#2/#3", 2, -1001, 0, -1);
    due("#2/#3", -2, -1001, 0, 1);
    due("#2/#3", -2000, 3000, 0, -666);
    due("#2/#3", MOST, 1000, 0, MOST);
    due("#2/#3", MOST, 999, 4, 0);
    due("#2/#3", 1000000000, 1, 0, MOST);
    due("#2/#3", 1000000001, 1, 4, 0);
    due("#2/#3", -1000000001, 1, 4, 0);
    due("#2/#3", -1000000000, 1, 0, -MOST);
    due("#2/#3", 999 * 1000000000L, 999, 0, MOST);
    due("#2/#3", 999 * 1000000000L + 1, 999, 4, 0);
    due("#2/#3", MOST, 1, 4, 0);
    due("#2/#3", 0, -1, 0, 0);
  }

  private static void dividedBy0() {
    due("#2/#3", 1, 0, 1, 0);
    due("#2/#3", 0, 0, 1, 0);
    due("#2/#3", MOST, 0, 1, 0);
    due("#2/#3", 1, 1, 0, 1000);
    due("#2/#3", 1, -1, 0, -1000);
    due("#2/0.000", 1, 0, 1, 0);
    due("#2/[#3-1]", 1, 1000, 1, 0);
    // Cut to 0, the divisor is 0.
    due("#2/[#3*0.001]", 1, 999, 1, 0);
    due("#2/[#3*0.001]", 1, 1000, 0, 1000);
  }

  private static void modIsRoundedDown() {
    due("#2MOD#3", 4, 5, 0, 4);
    due("#2MOD#3", 5, 5, 0, 0);
    due("#2MOD#3", 6, 5, 0, 1);
    due("#2MOD#3", -1, 5, 0, 4);
    due("#2MOD#3", -5, 5, 0, 0);
    due("#2MOD#3", -6, 5, 0, 4);
    due("#2MOD#3", 1, -5, 0, -4);
    due("#2MOD#3", 5, -5, 0, 0);
    due("#2MOD#3", 6, -5, 0, -4);
    due("#2MOD#3", -1, -5, 0, -1);
    due("#2MOD#3", -5, -5, 0, 0);
    due("#2MOD#3", -6, -5, 0, -1);
    due("#2MOD#3", 0, -5, 0, 0);
    // Rounded of the thousandths: 1 is thrice 0.3, and 0.1 more.
    due("#2MOD#3", 1000, 300, 0, 100);
    due("#2MOD#3", 12345, 1, 0, 0);
    due("#2MOD#3", MOST, MOST, 0, 0);
    due("#2MOD#3", MOST - 1, MOST, 0, MOST - 1);
    due("#2MOD#3", -1, MOST, 0, MOST - 1);
    due("#2MOD#3", 1, -MOST, 0, 1 - MOST);
    due("#2MOD#3", MOST, 999999999999L, 0, 1);
  }

  private static void modBy0() {
    due("#2MOD#3", 1, 0, 1, 0);
    due("#2MOD#3", 0, 0, 1, 0);
    due("#2MOD#3", 5, 1, 0, 0);
    due("#2MOD#3", 5, -1, 0, 0);
  }

  private static void andOrXor() {
    long[] values = {0, 1, -1, 1000, MOST, -MOST};
    for (long a : values) {
      for (long b : values) {
        due("#2AND#3", a, b, 0, a != 0 && b != 0 ? 1000 : 0);
        due("#2OR#3", a, b, 0, a != 0 || b != 0 ? 1000 : 0);
        due("#2XOR#3", a, b, 0, a != 0 ^ b != 0 ? 1000 : 0);
      }
    }
  }

  private static void bothSidesAreWorkedOut() {
    for (String word : new String[] {"AND", "OR", "XOR"}) {
      for (long a : new long[] {0, 1000}) {
        due("#2" + word + "[1/#3]", a, 0, 1, 0);
        due("#2" + word + "#[#3]", a, 0, 2, 0);
        due("#2" + word + "[#3+0.001]", a, MOST, 4, 0);
        due("[1/#3]" + word + "#2", a, 0, 1, 0);
        due("#2" + word + "[1/#3]", a, 1000, 0, word.equals("OR") || a != 0 && word.equals("AND")
            || a == 0 && word.equals("XOR") ? 1000 : 0);
      }
    }
  }

  private static void tests() {
    for (long b : new long[] {0, 1, -1, 1000, MOST - 1, 1 - MOST}) {
      for (long a = b - 1; a <= b + 1; a++) {
        due("[#2EQ#3]", a, b, 0, a == b ? 1000 : 0);
        due("[#2NE#3]", a, b, 0, a != b ? 1000 : 0);
        due("[#2LT#3]", a, b, 0, a < b ? 1000 : 0);
        due("[#2LE#3]", a, b, 0, a <= b ? 1000 : 0);
        due("[#2GT#3]", a, b, 0, a > b ? 1000 : 0);
        due("[#2GE#3]", a, b, 0, a >= b ? 1000 : 0);
      }
    }
    // Without a word for it a test is its sum, as it is.
    due("[#2]", -1, 0, 0, -1);
    due("ABS[#2LT#3]", -2, -1, 0, 1000);
    due("#[#2LT#3]", -2, -1, 0, 77);
  }

  private static void abs() {
    due("ABS[#2]", -1, 0, 0, 1);
    due("ABS[#2]", 0, 0, 0, 0);
    due("ABS[#2]", 1, 0, 0, 1);
    due("ABS[#2]", -MOST, 0, 0, MOST);
    due("ABS[#2]", MOST, 0, 0, MOST);
  }

  private static void fixIsNotAbove() {
    long[][] cases = {{0, 0}, {1, 0}, {999, 0}, {1000, 1000}, {1001, 1000}, {1999, 1000},
        {2000, 2000}, {-1, -1000}, {-999, -1000}, {-1000, -1000}, {-1001, -2000},
        {MOST, MOST}, {MOST - 1, MOST - 1000}, {-MOST, -MOST}, {1 - MOST, -MOST}};
    for (long[] one : cases) {
      due("FIX[#2]", one[0], 0, 0, one[1]);
    }
  }

  private static void fupIsNotBelow() {
    long[][] cases = {{0, 0}, {1, 1000}, {999, 1000}, {1000, 1000}, {1001, 2000}, {-1, 0},
        {-999, 0}, {-1000, -1000}, {-1001, -1000}, {-1999, -1000}, {-2000, -2000},
        {MOST, MOST}, {MOST - 1, MOST}, {MOST - 999, MOST}, {MOST - 1000, MOST - 1000},
        {-MOST, -MOST}, {1 - MOST, 1000 - MOST}};
    for (long[] one : cases) {
      due("FUP[#2]", one[0], 0, 0, one[1]);
    }
  }

  private static void rootIsTheGreatestNotAbove() {
    // 10 thousandths are 100 squared: a thousandth less has a smaller root.
    long[][] cases = {{0, 0}, {1, 31}, {9, 94}, {10, 100}, {11, 104}, {39, 197}, {40, 200},
        {41, 202}, {999, 999}, {1000, 1000}, {1001, 1000}, {1002, 1000}, {1003, 1001},
        {2000, 1414}, {3999, 1999}, {4000, 2000}, {MOST, 31622776}, {MOST - 1, 31622776}};
    for (long[] one : cases) {
      due("ROOT[#2]", one[0], 0, 0, one[1]);
    }
    for (long root = 100; root <= 31622700; root = root * 7 / 5 / 100 * 100 + 100) {
      long square = root / 100 * (root / 100) * 10;
      due("ROOT[#2]", square, 0, 0, root);
      due("ROOT[#2]", square - 1, 0, 0, BigInteger.valueOf(square * 1000 - 1000).sqrt().longValue());
    }
  }

  private static void rootBelow0() {
    due("ROOT[#2]", 0, 0, 0, 0);
    due("ROOT[#2]", -1, 0, 1, 0);
    due("ROOT[#2]", -MOST, 0, 1, 0);
    due("ROOT[-#2]", 0, 0, 0, 0);
  }

  private static void alarm4BeyondTheLimits() {
    due("#2", MOST, 0, 0, MOST);
    due("#2", -MOST, 0, 0, -MOST);
    due("#2+0.001", MOST - 1, 0, 0, MOST);
    due("#2+0.001", MOST, 0, 4, 0);
    due("#2-0.001", 1 - MOST, 0, 0, -MOST);
    due("#2-0.001", -MOST, 0, 4, 0);
    due("#2*#3", MOST, 1001, 4, 0);
    due("#2/#3", MOST, 999, 4, 0);
    due("999999.999*1000.000", 0, 0, 0, 999999999000L);
    due("999999.999*1000.002", 0, 0, 4, 0);
  }

  private static void alarm4BehindEachOperation() {
    due("#2+1-1", MOST, 0, 4, 0);
    due("#2-1+1", MOST, 0, 0, MOST);
    due("#2-1+1", -MOST, 0, 4, 0);
    due("#2*2/2", MOST, 0, 4, 0);
    due("#2/2*2", MOST, 0, 0, MOST);
    due("#2*2*0", MOST, 0, 4, 0);
    due("#2*0*2", MOST, 0, 0, 0);
    due("[#2+1]MOD#3", MOST, 1000, 4, 0);
    due("[#2+1 EQ #3]", MOST, 1000, 4, 0);
    due("[#3 EQ #2+1]", MOST, 1000, 4, 0);
    due("0AND[#2+1]", MOST, 0, 4, 0);
    due("-[#2+1]", MOST, 0, 4, 0);
    due("ABS[#2+1]", MOST, 0, 4, 0);
    due("FIX[#2+1]", MOST, 0, 4, 0);
    due("#[#2+1]", MOST, 0, 4, 0);
    // The first alarm is told, whatever would come behind it.
    due("#2+1+1/0", MOST, 0, 4, 0);
    due("1/0+#2+1", MOST, 0, 1, 0);
    due("[#2+1]+1/0", MOST, 0, 4, 0);
    due("1/0+[#2+1]", MOST, 0, 1, 0);
    due("#0+[#2+1]", MOST, 0, 2, 0);
  }

  private static void placesAreWhole() {
    long[] good = {1000, 2000, 3000, 198000, 199000};
    for (long place : good) {
      due("#[#3]-#[#3]", 0, place, 0, 0);
    }
    long[] bad = {999, 1001, 1500, 1999, 2001, 198999, 199001, 1, -1, 500};
    for (long place : bad) {
      due("#[#3]", 0, place, 2, 0);
      dueOfPlace(place, 2);
    }
    due("#[1.000]", 0, 0, 0, 77);
    due("#[0.5*2]", 0, 0, 0, 77);
  }

  private static void placesAre1To199() {
    // 257 and 65537 would be 1 if bytes of them were lost.
    long[] bad = {0, -1000, -199000, 200000, 201000, 257000, 65537000, MOST, -MOST};
    for (long place : bad) {
      due("#[#3]", 0, place, 2, 0);
      dueOfPlace(place, 2);
    }
    for (long place : new long[] {1000, 2000, 198000, 199000}) {
      dueOfPlace(place, 0);
    }
    String[] numbers = {"1", "199", "000199", "001", "0", "000000", "200", "000200", "999999"};
    for (int i = 0; i < numbers.length; i++) {
      due("#" + numbers[i] + "*0", 0, 0, i < 4 ? 0 : 2, 0);
      ValueBlocks x = new ValueBlocks();
      Checks.due("read of #" + numbers[i], Checks.read(x, "#" + numbers[i] + "=5"), 1);
      Checks.due("run of #" + numbers[i], x.run(1), i < 4 ? 0 : 2);
      if (i < 4) {
        Checks.due("#" + numbers[i], x.variable(Integer.parseInt(numbers[i])), 5000);
      }
    }
  }

  /** The line #[#3] = 5, where #3 is the place. */
  private static void dueOfPlace(long place, int alarm) {
    ValueBlocks x = new ValueBlocks();
    x.put(3, place);
    Checks.due("read", Checks.read(x, "#[#3]=5"), 1);
    Checks.due("run of #[" + place + "]=5", x.run(1), alarm);
    Checks.due("line of #[" + place + "]=5", x.line(), alarm == 0 ? 0 : 1);
    for (int n = 1; n <= 199; n++) {
      long worth = n == 3 ? place : 0;
      Checks.due("#" + n, x.variable(n), alarm == 0 && n * 1000L == place ? 5000 : worth);
    }
  }

  private static void placesAreWorkedOutFirst() {
    alarmOf("#0=1/0", 2);
    alarmOf("#200=ROOT[-1]", 2);
    alarmOf("#[1/0]=#0", 1);
    alarmOf("#[0.5]=[999999*999999]*2", 2);
    alarmOf("#1=#0", 2);
    alarmOf("#1=1/0", 1);
    alarmOf("#[999999*999999*2]=1/0", 4);
    // The place is that of before: the sum does not see it changed, nor changes it.
    ValueBlocks x = new ValueBlocks();
    x.put(5, 5000);
    Checks.due("read", Checks.read(x, "#[#5]=#5+2\n#[#5]=#[#5-2]"), 2);
    Checks.due("run", x.run(2), 0);
    Checks.due("#5", x.variable(5), 7000);
    Checks.due("#7", x.variable(7), 7000);
  }

  private static void alarmOf(String line, int alarm) {
    ValueBlocks x = new ValueBlocks();
    Checks.due("read of " + line, Checks.read(x, line), 1);
    Checks.due("run of " + line, x.run(1), alarm);
    Checks.due("#1 of " + line, x.variable(1), 0);
  }

  private static void allFromTheLeft() {
    Checks.worth("8-4-2", 2000);
    Checks.worth("8-4+2", 6000);
    Checks.worth("8/4/2", 1000);
    Checks.worth("8/4*2", 4000);
    Checks.worth("8MOD5MOD2", 1000);
    Checks.worth("8MOD[5MOD2]", 0);
    Checks.worth("7MOD5*2", 4000);
    Checks.worth("2*7MOD5", 4000);
    Checks.worth("1AND0*5", 0);
    Checks.worth("5*1AND0", 0);
    Checks.worth("0AND0/1+5", 5000);
    Checks.worth("0OR5-1", 0);
    Checks.worth("5-5OR0", 0);
    Checks.worth("1OR1-1", 0);
    Checks.worth("1-1OR1", 1000);
    Checks.worth("1XOR1OR1", 1000);
    Checks.worth("1OR1XOR1", 0);
    Checks.worth("2+3*4", 14000);
    Checks.worth("2*3+4", 10000);
    Checks.worth("0OR1AND0", 0);
    Checks.worth("1OR1AND0", 1000);
    Checks.worth("[1+1LT3-0]", 1000);
    Checks.worth("[2*2GE2+2]", 1000);
    Checks.worth("-2+3", 1000);
    Checks.worth("-2*-3", 6000);
    Checks.worth("-7MOD5", 3000);
    Checks.worth("-[7MOD5]", -2000);
    Checks.worth("--3", 3000);
    Checks.worth("---3", -3000);
    // What stands on the left is worked out first: its alarm is the one that is told.
    Checks.alarm("1/0+#0", 1);
    Checks.alarm("#0+1/0", 2);
    Checks.alarm("#0*[1/0]", 2);
    Checks.alarm("[1/0]*#0", 1);
    Checks.alarm("[1/0 EQ #0]", 1);
    Checks.alarm("[#0 EQ 1/0]", 2);
    Checks.alarm("1+#0*[1/0]", 2);
  }

  /** All operations on all pairs of edges, as BigInteger works them out. */
  private static void everyOperationOnEveryEdge() {
    String[] signs = {"+", "-", "*", "/", "MOD"};
    for (String sign : signs) {
      ValueBlocks x = null;
      int calls = 0;
      for (long a : EDGES) {
        for (long b : EDGES) {
          if (x == null || calls > 80) {
            x = new ValueBlocks();
            Checks.read(x, "#1=#2" + sign + "#3");
            calls = 0;
          }
          calls++;
          BigInteger worth = worked(sign, BigInteger.valueOf(a), BigInteger.valueOf(b));
          boolean fits = worth != null && worth.abs().compareTo(BigInteger.valueOf(MOST)) <= 0;
          x.put(1, 77);
          x.put(2, a);
          x.put(3, b);
          String call = a + sign + b;
          Checks.due(call, x.run(1), worth == null ? 1 : fits ? 0 : 4);
          Checks.due(call, x.variable(1), fits ? worth.longValue() : 77);
        }
      }
    }
  }

  private static BigInteger worked(String sign, BigInteger a, BigInteger b) {
    BigInteger thousand = BigInteger.valueOf(1000);
    boolean divides = sign.equals("/") || sign.equals("MOD");
    if (divides && b.signum() == 0) {
      return null;
    }
    switch (sign) {
      case "+":
        return a.add(b);
      case "-":
        return a.subtract(b);
      case "*":
        return a.multiply(b).divide(thousand);
      case "/":
        return a.multiply(thousand).divide(b);
      default:
        BigInteger rest = a.remainder(b);
        return rest.signum() * b.signum() < 0 ? rest.add(b) : rest;
    }
  }
}
