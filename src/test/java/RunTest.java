/** Promises 6 to 8: run, line and steps. */
public final class RunTest {
  public static void main(String[] args) {
    fuel();
    flow();
    loops();
    alarmsEndTheRun();
    lineAndStepsAreOfTheLatestRun();
    sums();
    products();
    moduloAndLogic();
    tests();
    functions();
    order();
    variablePlaces();
    limits();
    deepSums();
    nothingIsLeftOfAlarms();
    Checks.finish();
  }

  private static void check(String text, int fuel, int alarm, int line, int steps) {
    ValueBlocks x = new ValueBlocks();
    check(x, text, fuel, alarm, line, steps);
  }

  private static void check(ValueBlocks x, String text, int fuel, int alarm, int line, int steps) {
    Checks.due("read of " + text, Checks.read(x, text) >= 0, true);
    Checks.due("run of " + text, x.run(fuel), alarm);
    Checks.due("line of " + text, x.line(), line);
    Checks.due("steps of " + text, x.steps(), steps);
  }

  private static void fuel() {
    check("#1=1\n\n#2=2", 3, 0, 0, 3);
    check("#1=1\n\n#2=2", 2, 15, 3, 2);
    check("#1=1\n\n#2=2\n", 3, 0, 0, 3);
    check("#1=1\n\n#2=2\n ", 3, 15, 4, 3);
    check("\n", 0, 15, 1, 0);
    check("", 0, 0, 0, 0);
    check("N1GOTO1", 30000, 15, 1, 30000);
    check("N1\nGOTO1", 29999, 15, 2, 29999);
    check("#1=1/0", 1, 1, 1, 1);
    check("#1=1/0", 0, 15, 1, 0);
    ValueBlocks x = new ValueBlocks();
    check(x, "#1=#1+1", 1, 0, 0, 1);
    Checks.due("run(-1)", x.run(-1), -1);
    Checks.due("run(30001)", x.run(30001), -1);
    Checks.due("run(least)", x.run(Integer.MIN_VALUE), -1);
    Checks.due("run(most)", x.run(Integer.MAX_VALUE), -1);
    Checks.due("such a call is no run", x.variable(1), 1000);
    Checks.due("run(30000)", x.run(30000), 0);
    Checks.due("variables stay from run to run", x.variable(1), 2000);
    Checks.due("run(0)", x.run(0), 15);
    Checks.due("the line is not begun", x.variable(1), 2000);
  }

  private static void flow() {
    ValueBlocks x = new ValueBlocks();
    check(x, "GOTO 7\n#1=1\nN007#2=2", 9, 0, 0, 2);
    Checks.due("#1 is jumped over", x.variable(1), 0);
    Checks.due("#2", x.variable(2), 2000);
    check("IF[0]GOTO 7\n#1=1\nN7", 9, 0, 0, 3);
    check("IF[0.001]GOTO 7\n#1=1\nN7", 9, 0, 0, 2);
    check("IF[-1]GOTO 7\n#1=1\nN7", 9, 0, 0, 2);
    check("N7#1=#1+1\nIF[#1LT10]GOTO 7", 99, 0, 0, 20);
    check("GOTO 2\nN1#1=1/0\nN2GOTO 3\nN3", 9, 0, 0, 3);
  }

  private static void loops() {
    ValueBlocks x = new ValueBlocks();
    check(x, "WHILE[#1LT3]DO1\n#1=#1+1\nEND1\n#2=9", 99, 0, 0, 11);
    Checks.due("#1", x.variable(1), 3000);
    Checks.due("#2", x.variable(2), 9000);
    check("WHILE[0]DO1\n#1=1/0\nEND1", 9, 0, 0, 1);
    check("WHILE[0]DO1\n#1=1/0\nEND1\n\n", 9, 0, 0, 2);
    check("WHILE[1]DO1\nEND1", 9, 15, 2, 9);
    check("WHILE[1]DO1\nEND1", 8, 15, 1, 8);
    x = new ValueBlocks();
    check(x, "WHILE[#1LT4]DO2\n#1=#1+1\n#2=0\nWHILE[#2LT#1]DO1\n#2=#2+1\n#3=#3+1\nEND1\nEND2", 999,
        0, 0, 1 + 4 * 5 + 10 * 4);
    Checks.due("inner turns", x.variable(3), 10000);
    // An END that is jumped to goes back to its WHILE.
    check("GOTO 5\nWHILE[0]DO1\nN5END1\n", 9, 0, 0, 3);
    // A loop may be left, and begun anew.
    check("N1#1=#1+1\nWHILE[#1LT3]DO1\nGOTO 1\nEND1\n#2=1", 99, 0, 0, 9);
    check("WHILE[0]DO1\nWHILE[1]DO2\nEND2\nEND1\nWHILE[0]DO1\nEND1", 9, 0, 0, 2);
  }

  private static void alarmsEndTheRun() {
    ValueBlocks x = new ValueBlocks();
    check(x, "#1=1\n#2=1/0\n#3=3", 9, 1, 2, 2);
    Checks.due("#1", x.variable(1), 1000);
    Checks.due("#3", x.variable(3), 0);
    check("\nIF[1MOD0]GOTO 1\nN1", 9, 1, 2, 2);
    check("\nWHILE[#0]DO 1\nEND 1", 9, 2, 2, 2);
    check("\n\nN1#999=1", 9, 2, 3, 3);
    check("#1=999999*1000\n", 9, 0, 0, 1);
    check("#1=999999*1000*2\n", 9, 4, 1, 1);
  }

  private static void lineAndStepsAreOfTheLatestRun() {
    ValueBlocks x = new ValueBlocks();
    check(x, "\n#1=1/0", 9, 1, 2, 2);
    Checks.read(x, "#1=1\n#2=1\n#3=1\n");
    Checks.due("line behind read", x.line(), 2);
    Checks.due("steps behind read", x.steps(), 2);
    x.run(-1);
    Checks.due("line behind no run", x.line(), 2);
    Checks.due("steps behind no run", x.steps(), 2);
    x.run(3);
    Checks.due("line", x.line(), 0);
    Checks.due("steps", x.steps(), 3);
  }

  private static void sums() {
    Checks.worth("1+2", 3000);
    Checks.worth("1.5-2.25", -750);
    Checks.worth("1-2-3", -4000);
    Checks.worth("1-[2-3]", 2000);
    Checks.worth("1--2", 3000);
    Checks.worth("---2.", -2000);
    Checks.worth("1+2*3", 7000);
    Checks.worth("[1+2]*3", 9000);
    Checks.worth("8-4/2", 6000);
    Checks.worth("999999.999", 999999999);
    Checks.worth("0.1", 100);
    Checks.worth("0.01", 10);
    Checks.worth("0.001", 1);
    Checks.worth("7.", 7000);
  }

  private static void products() {
    Checks.worth("0.001*0.999", 0);
    Checks.worth("-0.001*0.999", 0);
    Checks.worth("1.5*-1.5", -2250);
    Checks.worth("0.007*0.5", 3);
    Checks.worth("-0.007*0.5", -3);
    Checks.worth("1/3", 333);
    Checks.worth("-2/3", -666);
    Checks.worth("2/-3", -666);
    Checks.worth("-2/-3", 666);
    Checks.worth("8/4/2", 1000);
    Checks.worth("1/3*3", 999);
    Checks.worth("0/5", 0);
    Checks.alarm("1/0", 1);
    Checks.alarm("0/0.000", 1);
    Checks.alarm("1/[1-1]", 1);
  }

  private static void moduloAndLogic() {
    Checks.worth("7.5MOD2", 1500);
    Checks.worth("-7.5MOD2", 500);
    Checks.worth("7.5MOD-2", -500);
    Checks.worth("-7.5MOD-2", -1500);
    Checks.worth("6MOD2", 0);
    Checks.worth("-6MOD2", 0);
    Checks.worth("1MOD0.3", 100);
    Checks.worth("0MOD3", 0);
    Checks.alarm("1MOD0", 1);
    Checks.worth("2AND0.001", 1000);
    Checks.worth("2AND0", 0);
    Checks.worth("0AND0", 0);
    Checks.worth("0OR-1", 1000);
    Checks.worth("1OR0", 1000);
    Checks.worth("3OR5", 1000);
    Checks.worth("0OR0", 0);
    Checks.worth("0XOR3", 1000);
    Checks.worth("3XOR0", 1000);
    Checks.worth("2XOR3", 0);
    Checks.worth("0XOR0", 0);
    Checks.worth("1+0AND0", 1000);
    Checks.worth("1OR0*0", 1000);
    Checks.worth("1OR1XOR1", 0);
    Checks.worth("1XOR1OR1", 1000);
    Checks.worth("5-0OR0", 1000);
    Checks.worth("7AND7*5", 5000);
    Checks.worth("-0AND1", 0);
    Checks.alarm("0AND[1/0]", 1);
    Checks.alarm("1OR[1/0]", 1);
    Checks.alarm("1XOR#0", 2);
  }

  private static void tests() {
    Checks.worth("[2EQ2]", 1000);
    Checks.worth("[2EQ2.001]", 0);
    Checks.worth("[2NE2]", 0);
    Checks.worth("[2NE3]", 1000);
    Checks.worth("[2LT2]", 0);
    Checks.worth("[1.999LT2]", 1000);
    Checks.worth("[-2LT-3]", 0);
    Checks.worth("[2LE2]", 1000);
    Checks.worth("[2LE3]", 1000);
    Checks.worth("[2LE1]", 0);
    Checks.worth("[2GT2]", 0);
    Checks.worth("[3GT2]", 1000);
    Checks.worth("[-3GT-2]", 0);
    Checks.worth("[2GE2]", 1000);
    Checks.worth("[3GE2]", 1000);
    Checks.worth("[1GE2]", 0);
    Checks.worth("[1+1EQ4/2]", 1000);
    Checks.worth("[1EQ1]+[2EQ2]", 2000);
  }

  private static void functions() {
    Checks.worth("ABS[-1.5]", 1500);
    Checks.worth("ABS[1.5]", 1500);
    Checks.worth("ABS[0]", 0);
    Checks.worth("FIX[1.999]", 1000);
    Checks.worth("FIX[-1.001]", -2000);
    Checks.worth("FIX[-1]", -1000);
    Checks.worth("FIX[0.999]", 0);
    Checks.worth("FIX[-0.001]", -1000);
    Checks.worth("FUP[1.001]", 2000);
    Checks.worth("FUP[1]", 1000);
    Checks.worth("FUP[-1.999]", -1000);
    Checks.worth("FUP[-0.999]", 0);
    Checks.worth("FUP[0.001]", 1000);
    Checks.worth("ROOT[0]", 0);
    Checks.worth("ROOT[4]", 2000);
    Checks.worth("ROOT[2]", 1414);
    Checks.worth("ROOT[0.001]", 31);
    Checks.worth("ROOT[3.999]", 1999);
    Checks.worth("ROOT[999999.999]", 999999);
    Checks.alarm("ROOT[-0.001]", 1);
    Checks.worth("-ABS[-2]", -2000);
    Checks.worth("ABS[1LT2]", 1000);
  }

  private static void order() {
    Checks.alarm("1/0+#0", 1);
    Checks.alarm("#0+1/0", 2);
    Checks.alarm("[999999*999999*2]+#0", 4);
    Checks.alarm("[1/0EQ#0]", 1);
    Checks.alarm("#0/0", 2);
    ValueBlocks x = new ValueBlocks();
    check(x, "#0=1/0", 9, 2, 1, 1);
    check(x, "#[1/0]=#0", 9, 1, 1, 1);
    check(x, "#1.5", 9);
  }

  private static void check(ValueBlocks x, String faulty, int fuel) {
    Checks.due("read of " + faulty, Checks.read(x, faulty), -1);
    Checks.due("the text stays", x.run(fuel), 1);
  }

  private static void variablePlaces() {
    ValueBlocks x = new ValueBlocks();
    check(x, "#199=5\n#1=#199+1\n#[#1-4]=#[#199-4]\n#[#1*30+19]=8", 9, 0, 0, 4);
    Checks.due("#199", x.variable(199), 8000);
    Checks.due("#1", x.variable(1), 6000);
    Checks.due("#2", x.variable(2), 6000);
    Checks.alarm("#0", 2);
    Checks.alarm("#200", 2);
    Checks.alarm("#999999", 2);
    Checks.alarm("#[1.5]", 2);
    Checks.alarm("#[0.001]", 2);
    Checks.alarm("#[199.001]", 2);
    Checks.alarm("#[-1]", 2);
    Checks.alarm("#[999999*1000]", 2);
    Checks.worth("#[1.5+0.5]", 0);
    check("#200=1", 9, 2, 1, 1);
    check("#[0.5]=1", 9, 2, 1, 1);
    check("#[-1]=1", 9, 2, 1, 1);
    check("#[1EQ1]=1", 9, 0, 0, 1);
    // The old value is worked with, until the new one is worked out.
    check(x, "#5=3\n#5=#5*#5\n#[#5]=#5+#9", 9, 0, 0, 3);
    Checks.due("#9", x.variable(9), 9000);
  }

  /** #2 is the greatest value, #3 the least, #4 the smallest above 0. */
  private static void limit(String sum, int alarm, long worth) {
    ValueBlocks x = new ValueBlocks();
    x.put(2, 1000000000000L);
    x.put(3, -1000000000000L);
    x.put(4, 1);
    x.put(5, 1000000000L);
    x.put(6, 1000000001L);
    Checks.due("read of " + sum, Checks.read(x, "#1=" + sum), 1);
    Checks.due("run of " + sum, x.run(1), alarm);
    Checks.due(sum, x.variable(1), worth);
  }

  private static void limits() {
    limit("#2", 0, 1000000000000L);
    limit("-#2", 0, -1000000000000L);
    limit("-#3", 0, 1000000000000L);
    limit("#2+0", 0, 1000000000000L);
    limit("#2+#4", 4, 0);
    limit("#3-#4", 4, 0);
    limit("#3+#4", 0, -999999999999L);
    limit("#2+#4-#4", 4, 0);
    limit("#2-#4+#4", 0, 1000000000000L);
    limit("#2*1", 0, 1000000000000L);
    limit("#2*1.001", 4, 0);
    limit("#3*1.001", 4, 0);
    limit("#2*-1.001", 4, 0);
    limit("#2*#2", 4, 0);
    limit("#3*#3", 4, 0);
    limit("#3*#2", 4, 0);
    limit("#2*0", 0, 0);
    limit("0*#3", 0, 0);
    limit("#2*#4", 0, 1000000000L);
    limit("#5*1000", 0, 1000000000000L);
    // 1000000000001000 millionths are one thousandth too many, 999 fewer are cut.
    limit("#6*1000", 4, 0);
    limit("#6*-1000", 4, 0);
    limit("[#6-#4]*1000", 0, 1000000000000L);
    limit("#2/1", 0, 1000000000000L);
    limit("#2/0.999", 4, 0);
    limit("#2/#4", 4, 0);
    limit("#5/#4", 0, 1000000000000L);
    limit("#6/#4", 4, 0);
    limit("#3/-0.999", 4, 0);
    limit("#2/#3", 0, -1000);
    limit("#3MOD#2", 0, 0);
    limit("[#3+#4]MOD#2", 0, 1);
    limit("#4MOD#3", 0, -999999999999L);
    limit("FUP[#2-#4]", 0, 1000000000000L);
    limit("FIX[#3+#4]", 0, -1000000000000L);
    limit("FUP[#2]", 0, 1000000000000L);
    limit("ABS[#3]", 0, 1000000000000L);
    limit("ROOT[#2]", 0, 31622776L);
    limit("[#2GT#3]", 0, 1000);
  }

  /** As many values wait at once as can. */
  private static void deepSums() {
    String start = Checks.times(20, "[0EQ1+1*");
    String end = Checks.times(20, "]");
    Checks.worth("1+1*" + start + "5" + end, 1000);
    Checks.worth("1+1*" + Checks.times(20, "[7LT1+1*") + "7" + end, 1000);
    Checks.worth("1+1*" + Checks.times(20, "[9GT1+1*") + "7" + end, 2000);
    Checks.worth("0+2*" + Checks.times(20, "[1+1*") + "7" + end, 54000);
    Checks.worth("1-2*" + Checks.times(10, "-[1+1*") + "7" + Checks.times(10, "]"), -13000);
  }

  private static void nothingIsLeftOfAlarms() {
    ValueBlocks x = new ValueBlocks();
    String start = Checks.times(19, "[1+1*");
    String end = Checks.times(19, "]");
    Checks.read(x, "#1=" + start + "[1/#2]" + end);
    for (int i = 0; i < 50; i++) {
      Checks.due("run", x.run(1), 1);
    }
    x.put(2, 1000);
    Checks.due("run", x.run(1), 0);
    Checks.due("#1", x.variable(1), 20000);
  }
}
