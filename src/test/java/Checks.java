import java.nio.charset.StandardCharsets;

/** What the tests share: texts put into the tray, and answers compared with those that are due. */
final class Checks {
  private static int wrong = 0;

  private Checks() {}

  static void due(String call, long got, long want) {
    if (got != want) {
      wrong++;
      System.out.println(call + " answered " + got + ", due is " + want);
    }
  }

  static void due(String call, boolean got, boolean want) {
    due(call, got ? 1 : 0, want ? 1 : 0);
  }

  /** Feeds the text behind what the tray has, and cuts what the last feed() put behind it. */
  static void put(ValueBlocks x, int before, byte[] text) {
    for (int at = 0; at < text.length; at += 20) {
      x.feed(four(text, at), four(text, at + 4), four(text, at + 8), four(text, at + 12),
          four(text, at + 16));
    }
    due("end", x.end(before + text.length), before + text.length);
  }

  private static int four(byte[] text, int at) {
    int four = 0;
    for (int i = at; i < at + 4; i++) {
      four = four << 8 | (i < text.length ? text[i] & 255 : 0);
    }
    return four;
  }

  static byte[] bytes(String text) {
    return text.getBytes(StandardCharsets.ISO_8859_1);
  }

  static int read(ValueBlocks x, String text) {
    put(x, 0, bytes(text));
    return x.read();
  }

  /** The text has no fault, and as many lines as told. */
  static void good(String text, int lines) {
    ValueBlocks x = new ValueBlocks();
    due("read of " + shown(text), read(x, text), lines);
    due("place of " + shown(text), x.place(), -1);
  }

  static void fault(String text, int kind, int place) {
    ValueBlocks x = new ValueBlocks();
    due("read of " + shown(text), read(x, text), -kind);
    due("place of " + shown(text), x.place(), place);
  }

  /** The fault's place, or -1: then the text has no fault, and as many lines as told. */
  static void fault(String text, int kind, int place, int lines) {
    if (place < 0) {
      good(text, lines);
    } else {
      fault(text, kind, place);
    }
  }

  private static String shown(String text) {
    int last = text.length();
    String part = last <= 100 ? text : text.substring(0, 40) + " .. " + text.substring(last - 40);
    return "'" + part.replace("\n", "\\n") + "' of " + last + " bytes";
  }

  /** What #1 is behind the line #1 = sum, worked out without an alarm. */
  static void worth(String sum, long thousandths) {
    ValueBlocks x = new ValueBlocks();
    due("read of " + sum, read(x, "#1=" + sum), 1);
    due("run of " + sum, x.run(1), 0);
    due(sum, x.variable(1), thousandths);
  }

  /** The line #1 = sum ends with the alarm, and leaves #1 as it was. */
  static void alarm(String sum, int alarm) {
    ValueBlocks x = new ValueBlocks();
    x.put(1, 77);
    due("read of " + sum, read(x, "#1=" + sum), 1);
    due("run of " + sum, x.run(1), alarm);
    due("line of " + sum, x.line(), 1);
    due("steps of " + sum, x.steps(), 1);
    due("#1 behind " + sum, x.variable(1), 77);
  }

  static String times(int count, String part) {
    return part.repeat(count);
  }

  static void finish() {
    System.out.println(wrong == 0 ? "all answers are as due" : wrong + " answers are not as due");
    if (wrong != 0) {
      System.exit(1);
    }
  }
}
