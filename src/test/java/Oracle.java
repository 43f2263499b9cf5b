import java.math.BigInteger;
import java.nio.charset.StandardCharsets;
import java.util.ArrayDeque;
import java.util.ArrayList;
import java.util.Arrays;
import java.util.Deque;
import java.util.HashMap;
import java.util.List;
import java.util.Map;
import java.util.regex.Matcher;
import java.util.regex.Pattern;

/**
 * The document once more, written another way than the program: regular expressions for tokens, a
 * machine of states with a pile of open brackets for lines, trees and BigInteger for sums.
 */
final class Oracle {
  private static final BigInteger THOUSAND = BigInteger.valueOf(1000);
  private static final BigInteger MOST = BigInteger.TEN.pow(12);
  private static final Pattern BLANKS = Pattern.compile("(?:[\\t\\r ]|\\([ -~&&[^)]]*\\))*");
  private static final Pattern TOKEN =
      Pattern.compile("\\d+(?:\\.\\d*)?|IF|GOTO|WHILE|DO|END|ABS|FIX|FUP|ROOT|MOD|AND|OR|XOR"
          + "|EQ|NE|LT|LE|GT|GE|[A-Z]|[#=\\[\\]+*/\\n-]");
  private static final List<String> FUNCTIONS = Arrays.asList("ABS", "FIX", "FUP", "ROOT");
  private static final List<String> SUM_SIGNS = Arrays.asList("+", "-", "OR", "XOR");
  private static final List<String> PRODUCT_SIGNS = Arrays.asList("*", "/", "MOD", "AND");
  private static final List<String> COMPARISONS =
      Arrays.asList("EQ", "NE", "LT", "LE", "GT", "GE");

  private record Token(String text, int start) {}

  /** A number, or an operation on one or two nodes; "#" is the variable of a place. */
  private record Node(String name, BigInteger number, Node left, Node right) {}

  /** What is open: a bracket, or the sum behind = (bracket false). */
  private static final class Frame {
    final String purpose;
    final boolean bracket;
    final List<Node> operands = new ArrayList<>();
    final List<String> signs = new ArrayList<>();
    int minuses = 0;
    Node compared = null;
    String comparison = null;

    Frame(String purpose, boolean bracket) {
      this.purpose = purpose;
      this.bracket = bracket;
    }
  }

  private static final class Line {
    String word = "";
    int label = -1;
    int labelStart;
    int number = -1;
    int numberStart;
    int target;
    Node place;
    Node sum;
  }

  private static final class Alarm extends RuntimeException {
    private static final long serialVersionUID = 1;
    final int number;

    Alarm(int number) {
      super(null, null, false, false);
      this.number = number;
    }
  }

  int place = -1;
  int alarmLine = 0;
  int steps = 0;
  final BigInteger[] variables = new BigInteger[200];
  private List<Line> program = null;

  // The line that is being read.
  private String state;
  private Line line;
  private Deque<Frame> open;

  Oracle() {
    Arrays.fill(variables, BigInteger.ZERO);
  }

  int read(byte[] bytes) {
    List<Line> lines = new ArrayList<>();
    place = fault1(new String(bytes, StandardCharsets.ISO_8859_1), lines);
    if (place >= 0) {
      return -1;
    }
    place = fault2(lines);
    if (place >= 0) {
      return -2;
    }
    program = lines;
    return lines.size();
  }

  private int fault1(String text, List<Line> lines) {
    int at = 0;
    boolean inLine = false;
    while (at < text.length() || inLine) {
      if (!inLine) {
        begin(lines);
        inLine = true;
      }
      Matcher blanks = BLANKS.matcher(text).region(at, text.length());
      at = blanks.lookingAt() ? blanks.end() : at;
      if (at >= 8000 && text.length() > 8000) {
        return 8000;
      }
      Token token = new Token("\n", at);
      if (at < text.length()) {
        Matcher matcher = TOKEN.matcher(text).region(at, text.length());
        if (!matcher.lookingAt()) {
          return at;
        }
        token = new Token(matcher.group(), at);
        if (isTooLong(token.text)) {
          return at;
        }
      }
      if (!take(token)) {
        return at;
      }
      at += token.text.length();
      inLine = !token.text.equals("\n");
    }
    return -1;
  }

  private static boolean isNumber(String token) {
    return Character.isDigit(token.charAt(0));
  }

  private static boolean isWhole(String token) {
    return token.matches("[0-9]+");
  }

  private static boolean isTooLong(String token) {
    return isNumber(token) && !token.matches("[0-9]{1,6}(\\.[0-9]{0,3})?");
  }

  private static BigInteger worth(String token) {
    return new java.math.BigDecimal(token.endsWith(".") ? token + "0" : token)
        .movePointRight(3).toBigIntegerExact();
  }

  private void begin(List<Line> lines) {
    line = new Line();
    lines.add(line);
    state = "line";
    open = new ArrayDeque<>();
  }

  /** How deep a [ or a - of a factor would stand in others, itself counted. */
  private boolean isTooDeep() {
    int depth = 1;
    for (Frame frame : open) {
      depth += frame.minuses + (frame.bracket ? 1 : 0);
    }
    return depth > 20;
  }

  private boolean take(Token token) {
    String t = token.text;
    switch (state) {
      case "line":
        if (t.equals("N")) {
          state = "label";
          return true;
        }
        return takeRest(t);
      case "label":
        line.labelStart = token.start;
        line.label = isWhole(t) ? Integer.parseInt(t) : -1;
        state = "rest";
        return isWhole(t);
      case "rest":
        return takeRest(t);
      case "number":
        line.numberStart = token.start;
        line.number = isWhole(t) ? Integer.parseInt(t) : -1;
        state = "end";
        return isWhole(t);
      case "end":
        return t.equals("\n");
      case "set place":
      case "place":
        return takePlace(t);
      case "factor":
        return takeFactor(t);
      case "behind factor":
        return takeBehindFactor(t);
      case "=":
        open.push(new Frame("set", false));
        boolean isEqual = t.equals(state);
        state = "factor";
        return isEqual;
      case "GOTO":
      case "DO":
        boolean fits = t.equals(state);
        state = "number";
        return fits;
      default: // "[ABS" and its like, "[IF", "[WHILE"
        return t.equals("[") && openBracket(state.substring(1));
    }
  }

  private boolean takeRest(String t) {
    line.word = t;
    switch (t) {
      case "\n":
        return true;
      case "#":
        state = "set place";
        return true;
      case "IF":
      case "WHILE":
        state = "[" + t;
        return true;
      case "GOTO":
      case "END":
        state = "number";
        return true;
      default:
        return false;
    }
  }

  private boolean openBracket(String purpose) {
    if (isTooDeep()) {
      return false;
    }
    open.push(new Frame(purpose, true));
    state = "factor";
    return true;
  }

  private boolean takePlace(String t) {
    String purpose = state;
    if (isWhole(t)) {
      placeRead(purpose, new Node("number", worth(t), null, null));
      return true;
    }
    return t.equals("[") && openBracket(purpose);
  }

  private void placeRead(String purpose, Node node) {
    if (purpose.equals("set place")) {
      line.place = node;
      state = "=";
    } else {
      operand(new Node("#", null, node, null));
    }
  }

  private boolean takeFactor(String t) {
    if (t.equals("-")) {
      if (isTooDeep()) {
        return false;
      }
      open.peek().minuses++;
      return true;
    }
    if (FUNCTIONS.contains(t)) {
      state = "[" + t;
      return true;
    }
    if (t.equals("#")) {
      state = "place";
      return true;
    }
    if (t.equals("[")) {
      return openBracket("item");
    }
    if (isNumber(t)) {
      operand(new Node("number", worth(t), null, null));
      return true;
    }
    return false;
  }

  private void operand(Node node) {
    Frame frame = open.peek();
    Node signed = node;
    for (; frame.minuses > 0; frame.minuses--) {
      signed = new Node("negate", null, signed, null);
    }
    frame.operands.add(signed);
    state = "behind factor";
  }

  private boolean takeBehindFactor(String t) {
    Frame frame = open.peek();
    if (SUM_SIGNS.contains(t) || PRODUCT_SIGNS.contains(t)) {
      frame.signs.add(t);
      state = "factor";
      return true;
    }
    if (COMPARISONS.contains(t) && frame.bracket && frame.comparison == null) {
      frame.compared = sumOf(frame);
      frame.comparison = t;
      state = "factor";
      return true;
    }
    if (t.equals("]") && frame.bracket) {
      closeBracket(open.pop());
      return true;
    }
    if (t.equals("\n") && !frame.bracket) {
      line.sum = sumOf(frame);
      return true;
    }
    return false;
  }

  /** First the signs of products are bound, then those of sums, each from the left. */
  private static Node sumOf(Frame frame) {
    bind(frame, PRODUCT_SIGNS);
    bind(frame, SUM_SIGNS);
    return frame.operands.remove(0);
  }

  private static void bind(Frame frame, List<String> signs) {
    for (int i = 0; i < frame.signs.size();) {
      if (signs.contains(frame.signs.get(i))) {
        Node right = frame.operands.remove(i + 1);
        Node left = frame.operands.get(i);
        frame.operands.set(i, new Node(frame.signs.remove(i), null, left, right));
      } else {
        i++;
      }
    }
  }

  private void closeBracket(Frame frame) {
    Node node = sumOf(frame);
    if (frame.comparison != null) {
      node = new Node(frame.comparison, null, frame.compared, node);
    }
    switch (frame.purpose) {
      case "IF":
        line.sum = node;
        state = "GOTO";
        break;
      case "WHILE":
        line.sum = node;
        state = "DO";
        break;
      case "set place":
      case "place":
        placeRead(frame.purpose, node);
        break;
      case "item":
        operand(node);
        break;
      default:
        operand(new Node(frame.purpose, null, node, null));
        break;
    }
  }

  private static int fault2(List<Line> lines) {
    Map<Integer, Integer> labels = new HashMap<>();
    List<Integer> loops = new ArrayList<>();
    for (int i = 0; i < lines.size(); i++) {
      Line line = lines.get(i);
      if (line.label >= 0 && labels.putIfAbsent(line.label, i) != null) {
        return line.labelStart;
      }
      if (line.word.equals("WHILE")) {
        boolean stands = loops.stream().anyMatch(l -> lines.get(l).number == line.number);
        if (stands || line.number == 0 || line.number > 3) {
          return line.numberStart;
        }
        loops.add(i);
      } else if (line.word.equals("END")) {
        if (loops.isEmpty() || lines.get(loops.get(loops.size() - 1)).number != line.number) {
          return line.numberStart;
        }
        line.target = loops.remove(loops.size() - 1);
        lines.get(line.target).target = i + 1;
      }
    }
    if (!loops.isEmpty()) {
      return lines.get(loops.get(0)).numberStart;
    }
    for (Line line : lines) {
      if (line.word.equals("IF") || line.word.equals("GOTO")) {
        if (!labels.containsKey(line.number)) {
          return line.numberStart;
        }
        line.target = labels.get(line.number);
      }
    }
    return -1;
  }

  int run(int fuel) {
    if (program == null || fuel < 0 || fuel > 30000) {
      return -1;
    }
    steps = 0;
    alarmLine = 0;
    int at = 0;
    try {
      while (at < program.size()) {
        alarmLine = at + 1;
        if (steps == fuel) {
          throw new Alarm(15);
        }
        steps++;
        at = following(at, program.get(at));
      }
    } catch (Alarm alarm) {
      return alarm.number;
    }
    alarmLine = 0;
    return 0;
  }

  private int following(int at, Line done) {
    switch (done.word) {
      case "#":
        int n = placeOf(done.place);
        variables[n] = worthOf(done.sum);
        return at + 1;
      case "IF":
        return worthOf(done.sum).signum() != 0 ? done.target : at + 1;
      case "WHILE":
        return worthOf(done.sum).signum() == 0 ? done.target : at + 1;
      case "GOTO":
      case "END":
        return done.target;
      default:
        return at + 1;
    }
  }

  private int placeOf(Node node) {
    BigInteger[] parts = worthOf(node).divideAndRemainder(THOUSAND);
    if (parts[1].signum() != 0 || parts[0].signum() <= 0
        || parts[0].compareTo(BigInteger.valueOf(199)) > 0) {
      throw new Alarm(2);
    }
    return parts[0].intValue();
  }

  private BigInteger worthOf(Node node) {
    if (node.name.equals("number")) {
      return node.number;
    }
    if (node.name.equals("#")) {
      return variables[placeOf(node.left)];
    }
    BigInteger a = worthOf(node.left);
    BigInteger result = node.right == null ? one(node.name, a)
        : two(node.name, a, worthOf(node.right));
    if (result.abs().compareTo(MOST) > 0) {
      throw new Alarm(4);
    }
    return result;
  }

  private static BigInteger one(String name, BigInteger a) {
    switch (name) {
      case "negate":
        return a.negate();
      case "ABS":
        return a.abs();
      case "FIX":
        return a.subtract(a.mod(THOUSAND));
      case "FUP":
        return a.add(a.negate().mod(THOUSAND));
      default:
        if (a.signum() < 0) {
          throw new Alarm(1);
        }
        return a.multiply(THOUSAND).sqrt();
    }
  }

  private static BigInteger two(String name, BigInteger a, BigInteger b) {
    boolean left = a.signum() != 0;
    boolean right = b.signum() != 0;
    int order = a.compareTo(b);
    switch (name) {
      case "+":
        return a.add(b);
      case "-":
        return a.subtract(b);
      case "*":
        return a.multiply(b).divide(THOUSAND);
      case "/":
        return a.multiply(THOUSAND).divide(divisor(b));
      case "MOD":
        return modulo(a, divisor(b));
      case "AND":
        return truth(left && right);
      case "OR":
        return truth(left || right);
      case "XOR":
        return truth(left ^ right);
      case "EQ":
        return truth(order == 0);
      case "NE":
        return truth(order != 0);
      case "LT":
        return truth(order < 0);
      case "LE":
        return truth(order <= 0);
      case "GT":
        return truth(order > 0);
      default:
        return truth(order >= 0);
    }
  }

  private static BigInteger divisor(BigInteger b) {
    if (b.signum() == 0) {
      throw new Alarm(1);
    }
    return b;
  }

  private static BigInteger modulo(BigInteger a, BigInteger b) {
    BigInteger[] parts = a.divideAndRemainder(b);
    boolean rounded = parts[1].signum() != 0 && parts[1].signum() != b.signum();
    BigInteger down = rounded ? parts[0].subtract(BigInteger.ONE) : parts[0];
    return a.subtract(b.multiply(down));
  }

  private static BigInteger truth(boolean holds) {
    return holds ? THOUSAND : BigInteger.ZERO;
  }
}
