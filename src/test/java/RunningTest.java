/**
 * The document's sentences on running, each with the last case on the one side of its bound and
 * the first on the other.
 */
public final class RunningTest {
  private static final long[] TRUE_OR_FALSE = {0, 1, -1, 1000, -1000, 1000000000000L};

  public static void main(String[] args) {
    variablesStay();
    eachLineThatIsBegunIsAStep();
    oneMoreThanTheFuelIsNotBegun();
    alarm15HasTheNumberOfTheLineNotBegun();
    ifGoesOnIfItsTestIsNot0();
    whileGoesBehindItsEndIfItsTestIs0();
    endGoesBackToItsWhile();
    loopsMayBeLeftAndJumpedInto();
    alarmsEndTheRunWithTheLine();
    linesAreCountedBy10s();
    Checks.finish();
  }

  private static ValueBlocks ran(String text, int fuel, int alarm, int line, int steps) {
    ValueBlocks x = new ValueBlocks();
    Checks.due("read of " + text, Checks.read(x, text) >= 0, true);
    again(x, text, fuel, alarm, line, steps);
    return x;
  }

  private static void again(ValueBlocks x, String text, int fuel, int alarm, int line, int steps) {
    Checks.due("run of " + text, x.run(fuel), alarm);
    Checks.due("line of " + text, x.line(), line);
    Checks.due("steps of " + text, x.steps(), steps);
  }

  private static void variablesStay() {
    String text = "#1=#1+1\n#199=#199-1";
    ValueBlocks x = ran(text, 2, 0, 0, 2);
    for (int i = 2; i <= 5; i++) {
      again(x, text, 2, 0, 0, 2);
      Checks.due("#1", x.variable(1), 1000 * i);
      Checks.due("#199", x.variable(199), -1000 * i);
    }
    // From text to text, and over faults and alarms, too.
    Checks.due("read", Checks.read(x, "#1=#1*2\n#2=1/0\n#1=0"), 3);
    Checks.due("#1", x.variable(1), 5000);
    again(x, "an alarm", 9, 1, 2, 2);
    Checks.due("#1", x.variable(1), 10000);
    Checks.due("fault", Checks.read(x, "x"), -1);
    Checks.due("#1", x.variable(1), 10000);
    Checks.due("#199", x.variable(199), -5000);
  }

  private static void eachLineThatIsBegunIsAStep() {
    ran("", 5, 0, 0, 0);
    ran("\n", 5, 0, 0, 1);
    ran("\n\n(c)\nN1\n ", 9, 0, 0, 5);
    ran("#1=1", 5, 0, 0, 1);
    ran("GOTO 1\n\n\nN1", 5, 0, 0, 2);
    ran("IF[0]GOTO 1\n\nN1", 5, 0, 0, 3);
    ran("IF[1]GOTO 1\n\nN1", 5, 0, 0, 2);
    ran("WHILE[0]DO 1\n\nEND 1", 5, 0, 0, 1);
    ran("WHILE[#1LT2]DO 1\n#1=#1+1\nEND 1", 9, 0, 0, 7);
    // The line that ends with an alarm is begun, too.
    ran("#1=1\n#2=1/0\n", 9, 1, 2, 2);
    ran("#0=1", 9, 2, 1, 1);
  }

  private static void oneMoreThanTheFuelIsNotBegun() {
    String text = "#1=1\n#2=1\n#3=1\n";
    for (int fuel = 0; fuel <= 4; fuel++) {
      ValueBlocks x = ran(text, fuel, fuel < 3 ? 15 : 0, fuel < 3 ? fuel + 1 : 0,
          Math.min(fuel, 3));
      for (int n = 1; n <= 3; n++) {
        Checks.due("#" + n, x.variable(n), n <= fuel ? 1000 : 0);
      }
    }
    // The line that is not begun gives no alarm of its own.
    ran("#1=1\n#2=1/0", 1, 15, 2, 1);
    ran("#1=1\n#2=1/0", 2, 1, 2, 2);
    ran("#0=1", 0, 15, 1, 0);
    ran("", 0, 0, 0, 0);
    ran("N1 GOTO 1", 30000, 15, 1, 30000);
    ran("N1 GOTO 1", 29999, 15, 1, 29999);
    ran("N1#1=#1+1\nIF[#1LT15000]GOTO 1", 30000, 0, 0, 30000);
    ran("N1#1=#1+1\nIF[#1LT15000]GOTO 1", 29999, 15, 2, 29999);
    ran("N1#1=#1+1\nIF[#1LT15000]GOTO 1\n", 30000, 0, 0, 30000);
    ran("N1#1=#1+1\nIF[#1LT15000]GOTO 1\n ", 30000, 15, 3, 30000);
  }

  private static void alarm15HasTheNumberOfTheLineNotBegun() {
    ran("\n\n\n", 2, 15, 3, 2);
    ran("N9 GOTO 5\n\nN5", 1, 15, 3, 1);
    ran("IF[1]GOTO 5\n\nN5", 1, 15, 3, 1);
    ran("IF[0]GOTO 5\n\nN5", 1, 15, 2, 1);
    ran("WHILE[1]DO 1\nEND 1", 1, 15, 2, 1);
    ran("WHILE[1]DO 1\nEND 1", 2, 15, 1, 2);
    ran("WHILE[0]DO 1\n\nEND 1\n\n", 1, 15, 4, 1);
    // Behind the last line none is begun: the run has ended.
    ran("WHILE[0]DO 1\n\nEND 1\n", 1, 0, 0, 1);
    ran("\n\n\n", 3, 0, 0, 3);
  }

  private static void ifGoesOnIfItsTestIsNot0() {
    for (long worth : TRUE_OR_FALSE) {
      ValueBlocks x = new ValueBlocks();
      x.put(1, worth);
      Checks.read(x, "IF[#1]GOTO 7\n#2=1\nN7#3=1");
      again(x, "IF of " + worth, 9, 0, 0, worth != 0 ? 2 : 3);
      Checks.due("#2", x.variable(2), worth != 0 ? 0 : 1000);
      Checks.due("#3", x.variable(3), 1000);
    }
    ran("IF[2GT1]GOTO 7\n\nN7", 9, 0, 0, 2);
    ran("IF[1GT2]GOTO 7\n\nN7", 9, 0, 0, 3);
    // To a line before, to the next, and to itself.
    ran("N7#1=#1+1\nIF[#1LT3]GOTO 7", 9, 0, 0, 6);
    ran("IF[1]GOTO 7\nN7", 9, 0, 0, 2);
    ran("N7IF[1]GOTO 7", 9, 15, 1, 9);
    ran("N7IF[0]GOTO 7", 9, 0, 0, 1);
    ran("N1 GOTO 3\nN2 GOTO 4\nN3 GOTO 2\nN4", 9, 0, 0, 4);
  }

  private static void whileGoesBehindItsEndIfItsTestIs0() {
    for (long worth : TRUE_OR_FALSE) {
      ValueBlocks x = new ValueBlocks();
      x.put(1, worth);
      Checks.read(x, "WHILE[#1]DO 1\n#1=0\n#2=1\nEND 1\n#3=1");
      again(x, "WHILE of " + worth, 9, 0, 0, worth != 0 ? 6 : 2);
      Checks.due("#2", x.variable(2), worth != 0 ? 1000 : 0);
      Checks.due("#3", x.variable(3), 1000);
    }
    // Behind its own END, not that of a loop in it or around it.
    ran("WHILE[0]DO 1\nWHILE[1]DO 2\nEND 2\nEND 1\n\n", 9, 0, 0, 2);
    ran("WHILE[#1LT1]DO 1\n#1=#1+1\nWHILE[0]DO 2\n\nEND 2\n\nEND 1", 9, 0, 0, 6);
    ran("WHILE[0]DO 1\nEND 1\nWHILE[0]DO 1\nEND 1\n", 9, 0, 0, 2);
    ran("WHILE[0]DO 1\n#1=1/0\nEND 1", 9, 0, 0, 1);
  }

  private static void endGoesBackToItsWhile() {
    ValueBlocks x = ran("WHILE[#1LT2]DO 3\n#1=#1+1\n#2=0\nWHILE[#2LT2]DO 1\n#2=#2+1\n#3=0\n"
        + "WHILE[#3LT2]DO 2\n#3=#3+1\n#4=#4+1\nEND 2\nEND 1\nEND 3", 999, 0, 0,
        1 + 2 * (4 + 1 + 2 * (4 + 1 + 2 * 4)));
    Checks.due("turns", x.variable(4), 8000);
    // The test is worked out anew at each turn, and its alarm is told at its line.
    ran("\n#1=2\nWHILE[1/#1]DO 1\n#1=#1-1\nEND 1", 99, 1, 3, 9);
    ran("WHILE[1]DO 1\nEND 1", 7, 15, 2, 7);
  }

  private static void loopsMayBeLeftAndJumpedInto() {
    ran("GOTO 5\nWHILE[0]DO 1\nN5\nEND 1\n", 9, 0, 0, 4);
    ran("GOTO 5\nWHILE[0]DO 1\n\nN5 END 1\n", 9, 0, 0, 3);
    ran("WHILE[1]DO 1\nGOTO 5\nEND 1\nN5", 9, 0, 0, 3);
    ValueBlocks x = ran("#1=3\nGOTO 5\nWHILE[#1]DO 1\nN5#1=#1-1\n#2=#2+1\nEND 1", 99, 0, 0, 14);
    Checks.due("turns", x.variable(2), 3000);
    ran("N5 WHILE[#1LT2]DO 1\n#1=#1+1\nGOTO 5\nEND 1", 99, 0, 0, 7);
  }

  private static void alarmsEndTheRunWithTheLine() {
    String[] sums = {"1/0", "1MOD0", "ROOT[-1]", "#0", "#200", "#[1.5]", "#1*#1"};
    int[] alarms = {1, 1, 1, 2, 2, 2, 4};
    String[] fronts = {"#2=", "N7 IF[", "WHILE["};
    String[] backs = {"", "]GOTO 7", "]DO 1\nEND 1"};
    for (int i = 0; i < sums.length; i++) {
      for (int form = 0; form < fronts.length; form++) {
        for (int before = 0; before <= 2; before++) {
          ValueBlocks x = new ValueBlocks();
          x.put(1, 1000000000000L);
          x.put(2, 5);
          String text = Checks.times(before, "\n") + fronts[form] + sums[i] + backs[form]
              + "\n#3=1\n";
          Checks.due("read of " + text, Checks.read(x, text) > 0, true);
          again(x, text, 9, alarms[i], before + 1, before + 1);
          Checks.due("#2", x.variable(2), 5);
          Checks.due("#3", x.variable(3), 0);
        }
      }
    }
    // What the lines before it set stays set; the next run is a new one.
    ValueBlocks x = ran("#1=#1+1\n#2=1/[#1-1]\n#3=1", 9, 1, 2, 2);
    again(x, "again", 9, 0, 0, 3);
    Checks.due("#1", x.variable(1), 2000);
    Checks.due("#2", x.variable(2), 1000);
    again(x, "short of fuel", 2, 15, 3, 2);
    again(x, "again", 3, 0, 0, 3);
  }

  private static void linesAreCountedBy10s() {
    String[] texts = {"", "\n", "\n\n", " ", "(c)", "N1", "N1\n", "N1\n ", "N1\n\n", "N1\nN2",
        "\n\t", "\n()"};
    int[] lines = {0, 1, 2, 1, 1, 1, 1, 2, 2, 2, 2, 2};
    for (int i = 0; i < texts.length; i++) {
      Checks.good(texts[i], lines[i]);
      ran(texts[i], 9, 0, 0, lines[i]);
      if (lines[i] > 0) {
        ran(texts[i], lines[i] - 1, 15, lines[i], lines[i] - 1);
      }
    }
    // Line 1 is the first; a line has its number whatever lines are jumped over.
    ran("#0=1\n", 9, 2, 1, 1);
    ran("GOTO 1\n\n\n\nN1#0=1", 9, 2, 5, 2);
    ran(Checks.times(7995, "\n") + "#0=1\n", 30000, 2, 7996, 7996);
  }
}
