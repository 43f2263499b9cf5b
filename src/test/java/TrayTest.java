/** Promises 1 to 3: a new object, feed, end. */
public final class TrayTest {
  public static void main(String[] args) {
    newObject();
    feedCounts();
    feedPutsTheHighestByteFirst();
    feedRefusesMoreThanTheTrayHolds();
    feedRefusesMoreThanAllThatMayBeFed();
    endCuts();
    endRefuses();
    Checks.finish();
  }

  private static void newObject() {
    ValueBlocks x = new ValueBlocks();
    Checks.due("new run", x.run(10), -1);
    Checks.due("new run(0)", x.run(0), -1);
    Checks.due("new place", x.place(), -1);
    Checks.due("new line", x.line(), 0);
    Checks.due("new steps", x.steps(), 0);
    for (int n = -1; n <= 201; n++) {
      Checks.due("new variable " + n, x.variable(n), 0);
    }
    Checks.due("new end(1)", x.end(1), -1);
    Checks.due("new end(0)", x.end(0), 0);
  }

  private static void feedCounts() {
    ValueBlocks x = new ValueBlocks();
    Checks.due("feed", x.feed(0, 0, 0, 0, 0), 20);
    Checks.due("feed", x.feed(-1, -1, -1, -1, -1), 40);
    Checks.due("feed", x.feed(Integer.MIN_VALUE, Integer.MAX_VALUE, 1, 2, 3), 60);
    Checks.due("end", x.end(7), 7);
    Checks.due("feed", x.feed(0, 0, 0, 0, 0), 27);
    Checks.due("read", x.read(), -1);
    Checks.due("place", x.place(), 0);
    Checks.due("feed behind read", x.feed(0, 0, 0, 0, 0), 20);
  }

  private static void feedPutsTheHighestByteFirst() {
    ValueBlocks x = new ValueBlocks();
    x.feed(0x2331303D, 0x31320A23, 0x31313D33, 0x0A233132, 0x3D35362E);
    Checks.due("read", x.read(), 3);
    Checks.due("run", x.run(9), 0);
    Checks.due("#10", x.variable(10), 12000);
    Checks.due("#11", x.variable(11), 3000);
    Checks.due("#12", x.variable(12), 56000);
    // A byte of 128 and more is none of the signs whose low bits it has.
    x.feed(0xA3313D31, 0, 0, 0, 0);
    x.end(4);
    Checks.due("read of 163", x.read(), -1);
    Checks.due("place of 163", x.place(), 0);
  }

  /** 512 calls cannot come to these limits: what is behind them is free, but must not break. */
  private static void feedRefusesMoreThanTheTrayHolds() {
    ValueBlocks x = new ValueBlocks();
    for (int i = 1; i <= 800; i++) {
      Checks.due("feed " + i, x.feed(0x0A0A0A0A, 0x0A0A0A0A, 0x0A0A0A0A, 0x0A0A0A0A, 0x0A0A0A0A),
          20 * i);
    }
    Checks.due("feed 801", x.feed(0, 0, 0, 0, 0), -1);
    Checks.due("end(16001)", x.end(16001), -1);
    Checks.due("end(16000)", x.end(16000), 16000);
    Checks.due("end(15981)", x.end(15981), 15981);
    Checks.due("feed with 15981", x.feed(0, 0, 0, 0, 0), -1);
    Checks.due("end(15980)", x.end(15980), 15980);
    Checks.due("feed with 15980", x.feed(0, 0, 0, 0, 0), 16000);
    Checks.due("read of 16000", x.read(), -1);
    Checks.due("place of 16000", x.place(), 8000);
    Checks.due("feed behind read", x.feed(0, 0, 0, 0, 0), 20);
  }

  private static void feedRefusesMoreThanAllThatMayBeFed() {
    ValueBlocks x = new ValueBlocks();
    for (int i = 1; i <= 65536 / 20; i++) {
      Checks.due("feed " + i, x.feed(0, 0, 0, 0, 0), 20);
      x.end(0);
    }
    Checks.due("feed beyond 65536", x.feed(0, 0, 0, 0, 0), -1);
    Checks.due("end(1)", x.end(1), -1);
    Checks.due("end(0)", x.end(0), 0);
  }

  private static void endCuts() {
    ValueBlocks x = new ValueBlocks();
    x.feed(0x23313D31, 0x32333435, 0x36373839, 0, 0);
    Checks.due("end(20)", x.end(20), 20);
    Checks.due("end(6)", x.end(6), 6);
    Checks.due("end(7)", x.end(7), -1);
    Checks.due("end(6) again", x.end(6), 6);
    Checks.due("read", x.read(), 1);
    Checks.due("run", x.run(1), 0);
    Checks.due("#1", x.variable(1), 123000);
    Checks.due("end(0) behind read", x.end(0), 0);
    Checks.due("end(1) behind read", x.end(1), -1);
  }

  private static void endRefuses() {
    ValueBlocks x = new ValueBlocks();
    x.feed(0x23313D31, 0x32333435, 0, 0, 0);
    Checks.due("end(-1)", x.end(-1), -1);
    Checks.due("end(21)", x.end(21), -1);
    Checks.due("end(least)", x.end(Integer.MIN_VALUE), -1);
    Checks.due("end(most)", x.end(Integer.MAX_VALUE), -1);
    Checks.due("feed: all stays", x.feed(0, 0, 0, 0, 0), 40);
    Checks.due("end(4)", x.end(4), 4);
    Checks.due("read", x.read(), 1);
    Checks.due("run", x.run(1), 0);
    Checks.due("#1", x.variable(1), 1000);
  }
}
