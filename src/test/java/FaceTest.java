import java.lang.reflect.Constructor;
import java.lang.reflect.Method;
import java.lang.reflect.Modifier;
import java.util.Arrays;
import java.util.TreeSet;

/**
 * The public face, and promises 1 to 10 one by one: each of their sentences with the last case on
 * the one side of its bound and the first on the other, and what a refused call leaves.
 */
public final class FaceTest {
  private static final long MOST = 1000000000000L;
  private static final int[] FAR = {Integer.MIN_VALUE, Integer.MIN_VALUE + 1, -65536, -30000, -256,
      -199, -2, Integer.MAX_VALUE - 1, Integer.MAX_VALUE};

  public static void main(String[] args) {
    theFaceIsTheDocuments();
    aNewObjectHasNothing();
    feedTakesTwentyBytes();
    feedPutsTheHighestFirst();
    feedRefusesMoreThan16000();
    feedRefusesMoreThan65536InAll();
    endKeepsTheFirstBytes();
    whatIsCutIsNoPartOfTheText();
    endRefuses();
    readUsesTheTrayUp();
    readTellsTheLinesOrTheFault();
    aFaultLeavesTheText();
    placeIsOfTheLatestRead();
    runTakesFuelUpTo30000();
    runWithoutTextOrFuelIsNoRun();
    lineIsOfTheLatestRun();
    stepsAreOfTheLatestRun();
    variablesAre1To199();
    putTakesValuesUpToTheLimits();
    objectsHoldFor512Calls();
    objectsAreApart();
    Checks.finish();
  }

  private static void theFaceIsTheDocuments() {
    Class<?> face = ValueBlocks.class;
    Checks.due("the class is final", Modifier.isFinal(face.getModifiers()), true);
    Checks.due("the class is public", Modifier.isPublic(face.getModifiers()), true);
    TreeSet<String> members = new TreeSet<>();
    for (Constructor<?> made : face.getConstructors()) {
      members.add(Arrays.toString(made.getParameterTypes()));
    }
    for (Method method : face.getDeclaredMethods()) {
      if (!Modifier.isPrivate(method.getModifiers()) && !method.isSynthetic()) {
        members.add(method.getReturnType() + " " + method.getName()
            + Arrays.toString(method.getParameterTypes()));
      }
    }
    String due = "[[], boolean put[int, long], int end[int], int feed[int, int, int, int, int], "
        + "int line[], int place[], int read[], int run[int], int steps[], long variable[int]]";
    if (!members.toString().equals(due)) {
      System.out.println("the face is " + members);
    }
    Checks.due("the face", members.toString().equals(due), true);
    Checks.due("public fields", face.getFields().length, 0);
  }

  /** Promise 1: No text, all variables 0; and promises 5, 7, 8 ahead of any read() or run(). */
  private static void aNewObjectHasNothing() {
    ValueBlocks x = new ValueBlocks();
    for (int n = 1; n <= 199; n++) {
      Checks.due("variable(" + n + ")", x.variable(n), 0);
    }
    Checks.due("run(0)", x.run(0), -1);
    Checks.due("run(1)", x.run(1), -1);
    Checks.due("run(30000)", x.run(30000), -1);
    Checks.due("place()", x.place(), -1);
    Checks.due("line()", x.line(), 0);
    Checks.due("steps()", x.steps(), 0);
    Checks.due("end(0)", x.end(0), 0);
    Checks.due("end(1)", x.end(1), -1);
    Checks.due("read()", x.read(), 0);
    Checks.due("place()", x.place(), -1);
  }

  /** Promise 2: The twenty bytes go into the tray: how many it has then. */
  private static void feedTakesTwentyBytes() {
    ValueBlocks x = new ValueBlocks();
    int[] words = {0, -1, 1, Integer.MIN_VALUE, Integer.MAX_VALUE, 0x0A0A0A0A};
    int has = 0;
    for (int word : words) {
      has += 20;
      Checks.due("feed", x.feed(word, word, word, word, word), has);
    }
    Checks.due("end(119)", x.end(119), 119);
    Checks.due("feed", x.feed(0, 0, 0, 0, 0), 139);
    Checks.due("end(0)", x.end(0), 0);
    Checks.due("feed", x.feed(0, 0, 0, 0, 0), 20);
    x.read();
    Checks.due("feed behind read", x.feed(0, 0, 0, 0, 0), 20);
  }

  /** Promise 2: the highest first. Each of the twenty places has a byte that is told there. */
  private static void feedPutsTheHighestFirst() {
    for (int at = 0; at < 20; at++) {
      for (int b : new int[] {0, 1, 127, 128, 255}) {
        int[] words = {0x20202020, 0x20202020, 0x20202020, 0x20202020, 0x20202020};
        int shift = 24 - 8 * (at % 4);
        words[at / 4] = words[at / 4] & ~(255 << shift) | b << shift;
        ValueBlocks x = new ValueBlocks();
        x.feed(words[0], words[1], words[2], words[3], words[4]);
        Checks.due("read of " + b + " at " + at, x.read(), -1);
        Checks.due("place of " + b + " at " + at, x.place(), at);
      }
    }
    ValueBlocks x = new ValueBlocks();
    // #1=234567.891+12 and blanks
    x.feed(0x23313D32, 0x33343536, 0x372E3839, 0x312B3132, 0x20202020);
    Checks.due("read", x.read(), 1);
    Checks.due("run", x.run(1), 0);
    Checks.due("#1", x.variable(1), 234579891);
  }

  private static void feedLines(ValueBlocks x, int times) {
    for (int i = 0; i < times; i++) {
      x.feed(0x0A0A0A0A, 0x0A0A0A0A, 0x0A0A0A0A, 0x0A0A0A0A, 0x0A0A0A0A);
    }
  }

  /** Promise 2: -1, and none does, if the tray would have more than 16000. */
  private static void feedRefusesMoreThan16000() {
    ValueBlocks x = new ValueBlocks();
    feedLines(x, 799);
    Checks.due("feed 800", x.feed(0, 0, 0, 0, 0), 16000);
    Checks.due("feed 801", x.feed(0x23232323, 0, 0, 0, 0), -1);
    Checks.due("feed 802", x.feed(0, 0, 0, 0, 0), -1);
    Checks.due("none does", x.end(16001), -1);
    Checks.due("all stay", x.end(16000), 16000);
    for (int n = 15999; n > 15980; n--) {
      Checks.due("end(" + n + ")", x.end(n), n);
      Checks.due("feed at " + n, x.feed(0, 0, 0, 0, 0), -1);
    }
    Checks.due("end(15980)", x.end(15980), 15980);
    Checks.due("feed at 15980", x.feed(0, 0, 0, 0, 0), 16000);
    Checks.due("end(8000)", x.end(8000), 8000);
    Checks.due("read", x.read(), 8000);
  }

  /** Promise 2: or there would be more than 65536 in all, whatever end() cuts. */
  private static void feedRefusesMoreThan65536InAll() {
    ValueBlocks x = new ValueBlocks();
    for (int i = 1; i <= 3276; i++) {
      Checks.due("feed " + i, x.feed(0x20202020, 0, 0, 0, 0), i % 3 == 0 ? 24 : 20);
      x.end(i % 3 == 2 ? 4 : 0);
    }
    Checks.due("feed 3277", x.feed(0, 0, 0, 0, 0), -1);
    Checks.due("none does", x.end(1), -1);
    Checks.due("read", x.read(), 0);
    Checks.due("feed 3278", x.feed(0, 0, 0, 0, 0), -1);
    // With read() in between it is the same.
    ValueBlocks y = new ValueBlocks();
    for (int i = 1; i <= 3276; i++) {
      Checks.due("feed " + i, y.feed(0x20202020, 0, 0, 0, 0), 20);
      y.read();
    }
    Checks.due("feed 3277", y.feed(0, 0, 0, 0, 0), -1);
  }

  /** Promise 3: The tray keeps its first n bytes: n. */
  private static void endKeepsTheFirstBytes() {
    for (int n = 0; n <= 20; n++) {
      ValueBlocks x = new ValueBlocks();
      feedLines(x, 1);
      Checks.due("end(" + n + ")", x.end(n), n);
      Checks.due("end(" + n + ") again", x.end(n), n);
      Checks.due("read", x.read(), n);
    }
    ValueBlocks x = new ValueBlocks();
    Checks.put(x, 0, Checks.bytes("#1=123456"));
    for (int n = 8; n >= 4; n--) {
      Checks.due("end(" + n + ")", x.end(n), n);
      Checks.due("end(" + (n + 1) + ")", x.end(n + 1), -1);
    }
    // What is cut is gone, and what is fed next stands in its place.
    Checks.put(x, 4, Checks.bytes("+7"));
    Checks.due("read", x.read(), 1);
    Checks.due("run", x.run(1), 0);
    Checks.due("#1", x.variable(1), 8000);
  }

  /** Promise 3: a token that is cut is the shorter one, as if nothing had stood behind it. */
  private static void whatIsCutIsNoPartOfTheText() {
    cut("N1.", 2, 1, -1);
    cut("N1234567", 7, 1, -1);
    cut("N1x", 2, 1, -1);
    cut("#1=1.5", 5, 1, -1);
    cut("END", 2, -1, 0);
    cut("#1=ABS[1]", 5, -1, 3);
    cut("#1=ABS[1]", 6, -1, 6);
    cut("#1=1XOR1", 6, -1, 4);
    cut("N1(c)", 4, -1, 2);
    cut("N1(c)", 2, 1, -1);
    cut("N1\n", 2, 1, -1);
    cut("\n\nx", 2, 2, -1);
    cut("GOTO 1\nN1", 7, -2, 5);
    cut("GOTO 10\nN1", 6, -2, 5);
    // What an earlier read() used up is no part of the next text either.
    ValueBlocks x = new ValueBlocks();
    Checks.due("read", Checks.read(x, "N1.5"), -1);
    Checks.put(x, 0, Checks.bytes("N"));
    Checks.due("read", x.read(), -1);
    Checks.due("place", x.place(), 1);
  }

  private static void cut(String text, int n, int answer, int place) {
    ValueBlocks x = new ValueBlocks();
    Checks.put(x, 0, Checks.bytes(text));
    Checks.due("end(" + n + ") of " + text, x.end(n), n);
    Checks.due("read of " + n + " of " + text, x.read(), answer);
    Checks.due("place of " + n + " of " + text, x.place(), place);
  }

  /** Promise 3: -1, and all stays, if n is below 0 or the tray has not so many. */
  private static void endRefuses() {
    ValueBlocks x = new ValueBlocks();
    for (int has = 0; has <= 40; has += 20) {
      Checks.due("end(-1) of " + has, x.end(-1), -1);
      Checks.due("end(" + (has + 1) + ") of " + has, x.end(has + 1), -1);
      for (int n : FAR) {
        Checks.due("end(" + n + ") of " + has, x.end(n), -1);
      }
      Checks.due("end(" + has + ") of " + has, x.end(has), has);
      feedLines(x, 1);
    }
    Checks.due("read", x.read(), 60);
    Checks.due("end(60) behind read", x.end(60), -1);
    Checks.due("end(1) behind read", x.end(1), -1);
    Checks.due("end(0) behind read", x.end(0), 0);
    // A refused end() leaves a run, a fault and the text.
    Checks.read(x, "x");
    Checks.due("run", x.run(59), 15);
    x.end(-1);
    Checks.due("place", x.place(), 0);
    Checks.due("line", x.line(), 60);
    Checks.due("steps", x.steps(), 59);
  }

  /** Promise 4: Reads the tray's text, used up. */
  private static void readUsesTheTrayUp() {
    String[] texts = {"#1=1", "x", "GOTO 1", "", "\n", Checks.times(8001, "\n")};
    int[] answers = {1, -1, -2, 0, 1, -1};
    for (int i = 0; i < texts.length; i++) {
      ValueBlocks x = new ValueBlocks();
      Checks.due("read", Checks.read(x, texts[i]), answers[i]);
      Checks.due("end(1)", x.end(1), -1);
      Checks.due("feed", x.feed(0, 0, 0, 0, 0), 20);
      Checks.due("end(0)", x.end(0), 0);
      Checks.due("read of nothing", x.read(), 0);
    }
  }

  /** Promise 4: how many lines it has; -1, -2 a fault 1, 2. */
  private static void readTellsTheLinesOrTheFault() {
    Checks.good("", 0);
    Checks.good("\n", 1);
    Checks.good("\n ", 2);
    Checks.good(Checks.times(8000, "\n"), 8000);
    Checks.good(Checks.times(7999, "\n") + " ", 8000);
    Checks.fault(Checks.times(8001, "\n"), 1, 8000);
    Checks.fault("x", 1, 0);
    Checks.fault("#1=", 1, 3);
    Checks.fault("GOTO 1", 2, 5);
    Checks.fault("END 1", 2, 4);
    Checks.fault("GOTO 1\nx", 1, 7);
  }

  /** Promise 4: at a fault the text is what it was. */
  private static void aFaultLeavesTheText() {
    String[] faulty = {"x", "#1=5\n#2=", "GOTO 9", "#1=5\nN1\nN1", "WHILE[1]DO 1\n#1=5",
        "#1=5\n" + Checks.times(8001, " ")};
    int[] kinds = {-1, -1, -2, -2, -2, -1};
    for (int i = 0; i < faulty.length; i++) {
      ValueBlocks x = new ValueBlocks();
      Checks.due("fault of a new object", Checks.read(x, faulty[i]), kinds[i]);
      Checks.due("there is no text", x.run(9), -1);
      Checks.due("a text", Checks.read(x, "N1#1=#1+1\nWHILE[#1LT2]DO 1\nGOTO 1\nEND 1\n"), 4);
      Checks.due("fault", Checks.read(x, faulty[i]), kinds[i]);
      Checks.due("fault again", Checks.read(x, faulty[i]), kinds[i]);
      Checks.due("run", x.run(99), 0);
      Checks.due("steps", x.steps(), 5);
      Checks.due("#1", x.variable(1), 2000);
      // An empty text is one: it takes the other's place.
      Checks.due("read of nothing", x.read(), 0);
      Checks.due("run", x.run(0), 0);
      Checks.due("steps", x.steps(), 0);
      Checks.due("fault", Checks.read(x, faulty[i]), kinds[i]);
      Checks.due("run", x.run(0), 0);
    }
  }

  /** Promise 5: The place of the fault of the latest read(); -1 if it had none. */
  private static void placeIsOfTheLatestRead() {
    ValueBlocks x = new ValueBlocks();
    String[] texts = {"x", "  x", "", "N1\nN1", "#1=", "\n", "GOTO 1", "GOTO 1 x", "#1=1",
        Checks.times(8001, " ")};
    int[] places = {0, 2, -1, 4, 3, -1, 5, 7, -1, 8000};
    for (int i = 0; i < texts.length; i++) {
      Checks.read(x, texts[i]);
      Checks.due("place of " + i, x.place(), places[i]);
      x.feed(0, 0, 0, 0, 0);
      x.end(0);
      x.end(-1);
      x.run(3);
      x.run(-1);
      x.put(1, 5);
      x.put(0, 5);
      Checks.due("place of " + i + " stays", x.place(), places[i]);
    }
  }

  /** Promise 6: fuel 0 .. 30000. */
  private static void runTakesFuelUpTo30000() {
    ValueBlocks x = new ValueBlocks();
    Checks.read(x, "N1 GOTO 1");
    for (int fuel : new int[] {0, 1, 2, 255, 256, 29999, 30000}) {
      Checks.due("run(" + fuel + ")", x.run(fuel), 15);
      Checks.due("steps", x.steps(), fuel);
    }
    for (int fuel : new int[] {-1, 30001, 30002, 65536, 65537}) {
      Checks.due("run(" + fuel + ")", x.run(fuel), -1);
      Checks.due("steps of the run before", x.steps(), 30000);
    }
    for (int fuel : FAR) {
      Checks.due("run(" + fuel + ")", x.run(fuel), -1);
    }
  }

  /** Promise 6: -1 there is no text, or no such fuel (such a call is no run). */
  private static void runWithoutTextOrFuelIsNoRun() {
    ValueBlocks x = new ValueBlocks();
    Checks.due("no text", x.run(5), -1);
    Checks.due("no text, no fuel", x.run(-1), -1);
    Checks.due("line", x.line(), 0);
    Checks.due("steps", x.steps(), 0);
    Checks.read(x, "#1=#1+1\n#2=1/0");
    Checks.due("run", x.run(5), 1);
    for (int fuel : new int[] {-1, 30001}) {
      Checks.due("run(" + fuel + ")", x.run(fuel), -1);
      Checks.due("line", x.line(), 2);
      Checks.due("steps", x.steps(), 2);
      Checks.due("#1", x.variable(1), 1000);
    }
  }

  /** Promise 7: The line of the latest run's alarm; 0 if it had none, and ahead of one. */
  private static void lineIsOfTheLatestRun() {
    ValueBlocks x = new ValueBlocks();
    Checks.due("ahead of a run", x.line(), 0);
    Checks.read(x, "\nIF[#1]GOTO 1\n#2=1/0\nN1");
    Checks.due("ahead of a run", x.line(), 0);
    x.run(9);
    Checks.due("an alarm", x.line(), 3);
    x.put(1, 1);
    Checks.due("the latest run's", x.line(), 3);
    Checks.read(x, "x");
    Checks.due("behind a fault", x.line(), 3);
    x.run(9);
    Checks.due("no alarm", x.line(), 0);
    x.run(1);
    Checks.due("alarm 15", x.line(), 2);
    Checks.read(x, "");
    Checks.due("behind another text", x.line(), 2);
    x.run(1);
    Checks.due("no alarm of an empty text", x.line(), 0);
  }

  /** Promise 8: The steps of the latest run; 0 ahead of one. */
  private static void stepsAreOfTheLatestRun() {
    ValueBlocks x = new ValueBlocks();
    Checks.due("ahead of a run", x.steps(), 0);
    Checks.read(x, "\n\n\n#0=1\n");
    Checks.due("ahead of a run", x.steps(), 0);
    x.run(3);
    Checks.due("of alarm 15", x.steps(), 3);
    x.run(4);
    Checks.due("of another alarm", x.steps(), 4);
    x.run(0);
    Checks.due("without fuel", x.steps(), 0);
    x.run(30000);
    Checks.due("of another alarm", x.steps(), 4);
    Checks.read(x, "\n");
    Checks.read(x, "x");
    Checks.due("behind reads", x.steps(), 4);
    x.run(9);
    Checks.due("of no alarm", x.steps(), 1);
  }

  /** Promises 9 and 10: 0 and false, if there is no such variable. */
  private static void variablesAre1To199() {
    ValueBlocks x = new ValueBlocks();
    for (int n = -300; n <= 500; n++) {
      boolean there = n >= 1 && n <= 199;
      if (n % 250 == 0) {
        x = new ValueBlocks();
      }
      Checks.due("put(" + n + ")", x.put(n, n + 1000L), there);
      Checks.due("variable(" + n + ")", x.variable(n), there ? n + 1000L : 0);
    }
    for (int n : FAR) {
      Checks.due("put(" + n + ")", x.put(n, 1), false);
      Checks.due("variable(" + n + ")", x.variable(n), 0);
    }
    // A refused put() changes none.
    x = new ValueBlocks();
    x.put(0, 5);
    x.put(200, 5);
    x.put(257, 5);
    x.put(65537, 5);
    for (int n = 0; n <= 200; n++) {
      Checks.due("variable(" + n + ")", x.variable(n), 0);
    }
  }

  /** Promise 10: false if v is above 10^12 or below -10^12. */
  private static void putTakesValuesUpToTheLimits() {
    long[] good = {MOST, MOST - 1, -MOST, 1 - MOST, 0, 1, -1, 1L << 32, Integer.MIN_VALUE};
    long[] bad = {MOST + 1, MOST + 2, -MOST - 1, -MOST - 2, Long.MAX_VALUE, Long.MIN_VALUE,
        Long.MIN_VALUE + 1, 1L << 40, -(1L << 40), 1L << 62};
    ValueBlocks x = new ValueBlocks();
    for (int n : new int[] {1, 2, 198, 199}) {
      for (long v : good) {
        Checks.due("put(" + n + ", " + v + ")", x.put(n, v), true);
        Checks.due("variable(" + n + ")", x.variable(n), v);
      }
      for (long v : bad) {
        Checks.due("put(" + n + ", " + v + ")", x.put(n, v), false);
        Checks.due("variable(" + n + ")", x.variable(n), Integer.MIN_VALUE);
      }
    }
    Checks.due("put(0, most)", x.put(0, MOST), false);
    Checks.due("put(0, more)", x.put(0, MOST + 1), false);
  }

  /** What it is: at most 512 calls, the last of them like the first. */
  private static void objectsHoldFor512Calls() {
    ValueBlocks x = new ValueBlocks();
    feedLines(x, 400);
    Checks.due("call 401", x.feed(0, 0, 0, 0, 0), 8020);
    Checks.due("call 402", x.end(8000), 8000);
    Checks.due("call 403", x.read(), 8000);
    for (int call = 404; call < 512; call++) {
      Checks.due("call " + call, x.run(8000 - call % 2), call % 2 == 0 ? 0 : 15);
    }
    Checks.due("call 512", x.steps(), 7999);
    ValueBlocks y = new ValueBlocks();
    feedLines(y, 511);
    Checks.due("call 512", y.feed(0, 0, 0, 0, 0), 10240);
    ValueBlocks z = new ValueBlocks();
    Checks.read(z, "N1#1=#1+1\nGOTO 1");
    for (int call = 4; call <= 511; call++) {
      z.run(2);
    }
    Checks.due("call 512", z.variable(1), 508000);
  }

  /** What is done with one object is not seen in another. */
  private static void objectsAreApart() {
    ValueBlocks x = new ValueBlocks();
    ValueBlocks y = new ValueBlocks();
    Checks.read(x, "#1=5\n#2=1/0");
    Checks.read(y, "#1=7");
    Checks.due("run of the one", x.run(9), 1);
    Checks.due("line of the other", y.line(), 0);
    Checks.due("steps of the other", y.steps(), 0);
    Checks.due("run of the other", y.run(9), 0);
    Checks.due("#1 of the one", x.variable(1), 5000);
    Checks.due("#1 of the other", y.variable(1), 7000);
    Checks.read(y, "x");
    Checks.due("place of the one", x.place(), -1);
    Checks.due("line of the one", x.line(), 2);
    feedLines(x, 1);
    Checks.due("end(1) of the other", y.end(1), -1);
  }
}
