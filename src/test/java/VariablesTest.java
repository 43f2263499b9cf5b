/** Promises 9 and 10: variable and put. */
public final class VariablesTest {
  private static final long MOST = 1000000000000L;

  public static void main(String[] args) {
    valuesAreKept();
    limitsOfValues();
    limitsOfNumbers();
    runsSeeAndSetThem();
    Checks.finish();
  }

  private static void valuesAreKept() {
    ValueBlocks x = new ValueBlocks();
    for (int n = 1; n <= 199; n++) {
      Checks.due("put " + n, x.put(n, n * 1001L), true);
    }
    for (int n = 1; n <= 199; n++) {
      Checks.due("variable " + n, x.variable(n), n * 1001L);
    }
    ValueBlocks y = new ValueBlocks();
    Checks.due("another object's", y.variable(5), 0);
  }

  private static void limitsOfValues() {
    ValueBlocks x = new ValueBlocks();
    Checks.due("put most", x.put(1, MOST), true);
    Checks.due("most", x.variable(1), MOST);
    Checks.due("put beyond most", x.put(1, MOST + 1), false);
    Checks.due("most stays", x.variable(1), MOST);
    Checks.due("put least", x.put(1, -MOST), true);
    Checks.due("least", x.variable(1), -MOST);
    Checks.due("put beyond least", x.put(1, -MOST - 1), false);
    Checks.due("put Long.MIN", x.put(1, Long.MIN_VALUE), false);
    Checks.due("put Long.MAX", x.put(1, Long.MAX_VALUE), false);
    Checks.due("least stays", x.variable(1), -MOST);
    Checks.due("put 0", x.put(1, 0), true);
    Checks.due("0", x.variable(1), 0);
  }

  private static void limitsOfNumbers() {
    ValueBlocks x = new ValueBlocks();
    int[] none = {0, -1, 200, 201, 1000, 199000, Integer.MIN_VALUE, Integer.MAX_VALUE};
    for (int n : none) {
      Checks.due("put " + n, x.put(n, 1), false);
      Checks.due("variable " + n, x.variable(n), 0);
    }
    Checks.due("put 1", x.put(1, 1), true);
    Checks.due("put 199", x.put(199, -1), true);
    Checks.due("variable 1", x.variable(1), 1);
    Checks.due("variable 199", x.variable(199), -1);
  }

  private static void runsSeeAndSetThem() {
    ValueBlocks x = new ValueBlocks();
    x.put(7, 2500);
    Checks.read(x, "#8=#7*2\n#9=#9+1");
    Checks.due("variables stay over read", x.variable(7), 2500);
    Checks.due("run", x.run(9), 0);
    Checks.due("#8", x.variable(8), 5000);
    x.put(9, -1);
    Checks.due("run", x.run(9), 0);
    Checks.due("#9", x.variable(9), 999);
    Checks.due("read of an empty text", x.read(), 0);
    Checks.due("#9 stays", x.variable(9), 999);
  }
}
