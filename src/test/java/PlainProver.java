import java.util.ArrayList;
import java.util.HashMap;
import java.util.List;
import java.util.Map;

/**
 * The document once more, as slowly and literally as can be, for tests to compare with: classes are
 * labels of literals, a round is a list of pairs, a dilemma copies all it needs, an assignment
 * fills a table of all literals.
 */
final class PlainProver {
  private final StringBuilder text = new StringBuilder();
  private final List<int[]> variables = new ArrayList<>();
  private final List<String> names = new ArrayList<>();
  private final Map<String, Integer> inputs = new HashMap<>();
  private Classes held = new Classes(0);
  private int place = -1;
  private int[] told = new int[4];
  private int mostSteps;

  PlainProver() {
    variables.add(new int[] {0, 0, 0});
    held.grow(1);
  }

  /** Ends a saturation that is spent. */
  private static final class Spent extends Exception {
    private static final long serialVersionUID = 1L;
  }

  /** Ends the reading of a text. */
  private static final class Fault extends Exception {
    private static final long serialVersionUID = 1L;
    private final int number;
    private final int place;

    Fault(int number, int place) {
      this.number = number;
      this.place = place;
    }
  }

  /** Each literal has a label; literals of one class have the same one. */
  private static final class Classes {
    private int[] labels;

    Classes(int variables) {
      labels = new int[0];
      grow(variables);
    }

    Classes(Classes other) {
      labels = other.labels.clone();
    }

    void grow(int variables) {
      int[] more = new int[2 * variables];
      for (int l = 0; l < more.length; l++) {
        more[l] = l < labels.length ? labels[l] : l;
      }
      labels = more;
    }

    boolean one(int a, int b) {
      return labels[a] == labels[b];
    }

    void join(int a, int b) {
      rename(labels[b], labels[a]);
      rename(labels[b ^ 1], labels[a ^ 1]);
    }

    private void rename(int from, int to) {
      for (int l = 0; l < labels.length; l++) {
        labels[l] = labels[l] == from ? to : labels[l];
      }
    }

    boolean broken() {
      for (int l = 0; l < labels.length; l++) {
        if (one(l, l ^ 1)) {
          return true;
        }
      }
      return false;
    }

    int count() {
      return (int) java.util.Arrays.stream(labels).distinct().count();
    }

    int least(int l) {
      int m = 0;
      while (!one(m, l)) {
        m++;
      }
      return m;
    }
  }

  int feed(long v, int n) {
    if (n < 0 || n > 8) {
      return -2;
    }
    if (n == 0) {
      text.setLength(0);
    }
    if (text.length() + n > 3000) {
      return -4;
    }
    for (int i = n; i > 0; i--) {
      text.append((char) (v >> 8 * (i - 1) & 255));
    }
    return text.length();
  }

  // ---- reading: tokens are strings, "" is the end

  private int at;
  private int open;
  private String seen;
  private int seenAt;

  private static boolean isWordSign(char c) {
    return c >= 'a' && c <= 'z' || c >= '0' && c <= '9';
  }

  private String peek() throws Fault {
    if (seen != null) {
      return seen;
    }
    while (at < text.length() && "\t\n\r ".indexOf(text.charAt(at)) >= 0) {
      at++;
    }
    seenAt = at;
    if (at == text.length()) {
      seen = "";
      return seen;
    }
    for (String sign : new String[] {"<->", "->", "(", ")", "&", "|", "^", "~"}) {
      if (text.indexOf(sign, at) == at) {
        at += sign.length();
        seen = sign;
        return seen;
      }
    }
    int end = at;
    while (end < text.length() && isWordSign(text.charAt(end))) {
      end++;
    }
    if (end == at || end > at + 6 || text.charAt(at) <= '9') {
      throw new Fault(1, at);
    }
    seen = text.substring(at, end);
    at = end;
    return seen;
  }

  private int take() throws Fault {
    peek();
    seen = null;
    return seenAt;
  }

  int read() {
    at = 0;
    open = 0;
    seen = null;
    place = -1;
    int answer;
    try {
      answer = level(0);
      if (!peek().equals("")) {
        throw new Fault(2, seenAt);
      }
    } catch (Fault fault) {
      place = fault.place;
      answer = -10 - fault.number;
    }
    held.grow(variables.size());
    return answer;
  }

  private static final String[] SIGNS = {"<->", "->", "|", "^", "&"};

  private int level(int level) throws Fault {
    if (level == SIGNS.length) {
      return not();
    }
    int left = level(level + 1);
    while (peek().equals(SIGNS[level])) {
      int sign = take();
      if (level == 1) {
        opening(sign);
      }
      int right = level(level == 1 ? 1 : level + 1);
      if (level == 1) {
        open--;
      }
      left = two(SIGNS[level], sign, left, right);
    }
    return left;
  }

  private void opening(int sign) throws Fault {
    open++;
    if (open == 41) {
      throw new Fault(3, sign);
    }
  }

  private int not() throws Fault {
    String token = peek();
    int start = seenAt;
    if (token.equals("~")) {
      opening(take());
      int literal = not();
      open--;
      return turn(literal);
    }
    if (token.equals("(")) {
      opening(take());
      int literal = level(0);
      if (!peek().equals(")")) {
        throw new Fault(2, seenAt);
      }
      take();
      open--;
      return literal;
    }
    if (token.isEmpty() || !isWordSign(token.charAt(0))) {
      throw new Fault(2, start);
    }
    take();
    if (token.equals("true") || token.equals("false")) {
      return token.equals("true") ? 0 : 1;
    }
    if (inputs.containsKey(token)) {
      return 2 * inputs.get(token);
    }
    if (inputs.size() == 24) {
      throw new Fault(4, start);
    }
    if (variables.size() == 120) {
      throw new Fault(5, start);
    }
    inputs.put(token, variables.size());
    names.add(token);
    variables.add(new int[] {1, names.size() - 1, 0});
    return 2 * variables.size() - 2;
  }

  private static int turn(int l) {
    return l % 2 == 0 ? l + 1 : l - 1;
  }

  private int two(String sign, int at, int a, int b) throws Fault {
    int literal;
    boolean turned = true;
    switch (sign) {
      case "&":
        literal = make(2, a, b);
        turned = false;
        break;
      case "|":
        literal = make(2, turn(a), turn(b));
        break;
      case "->":
        literal = make(2, a, turn(b));
        break;
      case "^":
        literal = make(3, a, b);
        break;
      default:
        literal = make(3, a, b);
        turned = false;
    }
    if (literal < 0) {
      throw new Fault(5, at);
    }
    return turned ? turn(literal) : literal;
  }

  private int make(int kind, int a, int b) {
    int[] wanted = {kind, Math.min(a, b), Math.max(a, b)};
    for (int v = 0; v < variables.size(); v++) {
      if (java.util.Arrays.equals(variables.get(v), wanted)) {
        return 2 * v;
      }
    }
    if (variables.size() == 120) {
      return -4;
    }
    variables.add(wanted);
    return 2 * variables.size() - 2;
  }

  int place() {
    return place;
  }

  int count(int what) {
    switch (what) {
      case 0:
        return variables.size();
      case 1:
        return names.size();
      case 2:
        return (int) variables.stream().filter(v -> v[0] >= 2).count();
      case 3:
        return held.broken() ? -3 : held.count();
      default:
        return -2;
    }
  }

  private boolean none(int l) {
    return l < 0 || l / 2 >= variables.size();
  }

  int variable(int v, int what) {
    if (v < 0 || v >= variables.size()) {
      return -1;
    }
    return what < 0 || what > 2 ? -2 : variables.get(v)[what];
  }

  int gate(int kind, int a, int b) {
    if (none(a) || none(b)) {
      return -1;
    }
    if (kind < 2 || kind > 3) {
      return -2;
    }
    int answer = make(kind, a, b);
    held.grow(variables.size());
    return answer;
  }

  int sign(int v, int i) {
    if (v < 0 || v >= variables.size() || variables.get(v)[0] != 1) {
      return -1;
    }
    String name = names.get(variables.get(v)[1]);
    return i < 0 || i >= name.length() ? -1 : name.charAt(i);
  }

  int clear() {
    int answer = variables.size();
    variables.subList(1, answer).clear();
    names.clear();
    inputs.clear();
    held = new Classes(1);
    return answer;
  }

  int forget() {
    int answer = count(3);
    held = new Classes(variables.size());
    return answer;
  }

  int join(int a, int b) {
    if (none(a) || none(b)) {
      return -1;
    }
    if (held.broken()) {
      return -3;
    }
    if (held.one(a, b)) {
      return 0;
    }
    held.join(a, b);
    return held.broken() ? 2 : 1;
  }

  int stands(int l) {
    if (none(l)) {
      return -1;
    }
    return held.broken() ? -3 : held.least(l);
  }

  // ---- saturation

  private static void tell(List<int[]> pairs, boolean when, int a, int b) {
    if (when) {
      pairs.add(new int[] {a, b});
    }
  }

  private static void tellAnd(Classes e, List<int[]> pairs, int x, int a, int b) {
    tell(pairs, e.one(a, 0), x, b);
    tell(pairs, e.one(b, 0), x, a);
    tell(pairs, e.one(a, 1) || e.one(b, 1), x, 1);
    tell(pairs, e.one(a, b), x, a);
    tell(pairs, e.one(a, turn(b)), x, 1);
    tell(pairs, e.one(x, 0), a, 0);
    tell(pairs, e.one(x, 0), b, 0);
    tell(pairs, e.one(x, turn(a)), a, 0);
    tell(pairs, e.one(x, turn(a)), b, 1);
    tell(pairs, e.one(x, turn(b)), b, 0);
    tell(pairs, e.one(x, turn(b)), a, 1);
  }

  private static void tellSame(Classes e, List<int[]> pairs, int x, int a, int b) {
    tell(pairs, e.one(a, 0), x, b);
    tell(pairs, e.one(a, 1), x, turn(b));
    tell(pairs, e.one(b, 0), x, a);
    tell(pairs, e.one(b, 1), x, turn(a));
    tell(pairs, e.one(x, 0), a, b);
    tell(pairs, e.one(x, 1), a, turn(b));
    tell(pairs, e.one(a, b), x, 0);
    tell(pairs, e.one(a, turn(b)), x, 1);
    tell(pairs, e.one(x, a), b, 0);
    tell(pairs, e.one(x, turn(a)), b, 1);
    tell(pairs, e.one(x, b), a, 0);
    tell(pairs, e.one(x, turn(b)), a, 1);
  }

  private void round(Classes e) {
    told[1]++;
    List<int[]> pairs = new ArrayList<>();
    for (int v = 1; v < variables.size(); v++) {
      int[] gate = variables.get(v);
      if (gate[0] == 2) {
        tellAnd(e, pairs, 2 * v, gate[1], gate[2]);
      } else if (gate[0] == 3) {
        tellSame(e, pairs, 2 * v, gate[1], gate[2]);
      }
    }
    for (int[] pair : pairs) {
      e.join(pair[0], pair[1]);
    }
  }

  private void toDepth0(Classes e) throws Spent {
    if (told[0] == mostSteps) {
      throw new Spent();
    }
    told[0]++;
    int classes = Integer.MAX_VALUE;
    while (!e.broken() && e.count() < classes) {
      classes = e.count();
      round(e);
    }
  }

  /** The classes that e becomes. */
  private Classes toDepth(Classes e, int depth) throws Spent {
    toDepth0(e);
    if (depth == 0) {
      return e;
    }
    while (!e.broken()) {
      int classes = e.count();
      e = pass(e, depth);
      if (e.broken() || e.count() == classes) {
        return e;
      }
      toDepth0(e);
    }
    return e;
  }

  private Classes pass(Classes e, int depth) throws Spent {
    told[2]++;
    for (int v = 1; v < variables.size(); v++) {
      if (e.one(2 * v, 0) || e.one(2 * v, 1)) {
        continue;
      }
      Classes yes = branch(e, 2 * v, 0, depth - 1);
      Classes no = branch(e, 2 * v, 1, depth - 1);
      if (yes.broken() && no.broken()) {
        return yes;
      }
      if (yes.broken() || no.broken()) {
        e = yes.broken() ? no : yes;
      } else {
        both(e, yes, no);
      }
    }
    return e;
  }

  private Classes branch(Classes e, int a, int b, int depth) throws Spent {
    Classes copy = new Classes(e);
    copy.join(a, b);
    copy = toDepth(copy, depth);
    if (copy.broken()) {
      told[3]++;
    }
    return copy;
  }

  private static void both(Classes e, Classes yes, Classes no) {
    for (int a = 0; a < e.labels.length; a++) {
      for (int b = 0; b < a; b++) {
        if (yes.one(a, b) && no.one(a, b) && !e.one(a, b)) {
          e.join(a, b);
        }
      }
    }
  }

  private static boolean outside(int depth, int steps) {
    return depth < 0 || depth > 4 || steps < 0 || steps > 5000;
  }

  int saturate(int depth, int steps) {
    if (outside(depth, steps)) {
      return -2;
    }
    if (held.broken()) {
      return -3;
    }
    told = new int[4];
    mostSteps = steps;
    try {
      held = toDepth(new Classes(held), depth);
      return held.broken() ? 0 : 1;
    } catch (Spent spent) {
      return -6;
    }
  }

  int prove(int l, int depth, int steps) {
    if (none(l)) {
      return -1;
    }
    if (outside(depth, steps)) {
      return -2;
    }
    told = new int[4];
    mostSteps = steps;
    Classes e = new Classes(variables.size());
    e.join(l, 1);
    try {
      for (int d = 0; d <= depth; d++) {
        e = toDepth(e, d);
        if (e.broken()) {
          return d;
        }
      }
      return -5;
    } catch (Spent spent) {
      return -6;
    }
  }

  int told(int what) {
    return what < 0 || what > 3 ? -2 : told[what];
  }

  // ---- assignments

  private boolean[] values(int n) {
    boolean[] values = new boolean[2 * variables.size()];
    for (int v = 0; v < variables.size(); v++) {
      int[] gate = variables.get(v);
      boolean value;
      if (gate[0] == 0) {
        value = true;
      } else if (gate[0] == 1) {
        value = (n >> gate[1]) % 2 == 1;
      } else if (gate[0] == 2) {
        value = values[gate[1]] && values[gate[2]];
      } else {
        value = values[gate[1]] == values[gate[2]];
      }
      values[2 * v] = value;
      values[2 * v + 1] = !value;
    }
    return values;
  }

  int value(int l, int n) {
    if (none(l)) {
      return -1;
    }
    if (n < 0 || n >= Math.pow(2, names.size())) {
      return -2;
    }
    return values(n)[l] ? 1 : 0;
  }

  int model(int l) {
    if (none(l)) {
      return -1;
    }
    if (names.size() > 14) {
      return -4;
    }
    for (int n = 0; n < Math.pow(2, names.size()); n++) {
      if (!values(n)[l]) {
        return n;
      }
    }
    return -7;
  }

  int alike(int a, int b) {
    if (none(a) || none(b)) {
      return -1;
    }
    if (names.size() > 14) {
      return -4;
    }
    for (int n = 0; n < Math.pow(2, names.size()); n++) {
      boolean[] values = values(n);
      if (values[a] != values[b]) {
        return 0;
      }
    }
    return 1;
  }
}
