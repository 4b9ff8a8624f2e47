/**
 * A prover by dilemmas: formulas become gates, gates an equivalence of signed variables.
 *
 * <p>Every row is made once, with the object: no call makes anything, so any number of calls fits
 * into the room that one run has.
 */
public final class DilemmaProver {
  private static final int TEXT_ROOM = 3000;
  private static final int VARIABLE_ROOM = 120;
  private static final int INPUT_ROOM = 24;
  private static final int NAME_ROOM = 6;
  private static final int OPEN_ROOM = 40;
  private static final int TABLE_INPUTS = 14;
  private static final int DEEPEST = 4;
  private static final int MOST_STEPS = 5000;

  private static final int TRUE_KIND = 0;
  private static final int INPUT = 1;
  private static final int AND = 2;
  private static final int SAME = 3;

  private static final int TRUE = 0;
  private static final int FALSE = 1;

  private static final int NONE = -1;
  private static final int OUTSIDE = -2;
  private static final int WRONG_STATE = -3;
  private static final int NO_ROOM = -4;
  private static final int UNPROVED = -5;
  private static final int SPENT = -6;
  private static final int BY_NONE = -7;
  private static final int FAULT_BASE = -10;

  private final Text text;
  private final Circuit circuit;
  private final Reader reader;
  private final Equivalence current;
  private final Equivalence working;
  private final Saturator saturator;
  private final Table table;

  public DilemmaProver() {
    text = new Text();
    circuit = new Circuit();
    reader = new Reader(text, circuit);
    current = new Equivalence();
    working = new Equivalence();
    saturator = new Saturator(circuit);
    table = new Table(circuit);
  }

  public int feed(long v, int n) {
    if (!isUpTo(n, 8)) {
      return OUTSIDE;
    }
    if (n == 0) {
      text.drop();
      return 0;
    }
    return text.append(v, n) ? text.length() : NO_ROOM;
  }

  public int read() {
    int literal = reader.readAll();
    current.growTo(circuit.size());
    return reader.fault() == 0 ? literal : FAULT_BASE - reader.fault();
  }

  public int place() {
    return reader.faultPlace();
  }

  public int count(int what) {
    switch (what) {
      case 0:
        return circuit.size();
      case 1:
        return circuit.inputs();
      case 2:
        return circuit.gates();
      case 3:
        return current.isContradiction() ? WRONG_STATE : current.classes();
      default:
        return OUTSIDE;
    }
  }

  public int variable(int v, int what) {
    if (!circuit.hasVariable(v)) {
      return NONE;
    }
    switch (what) {
      case 0:
        return circuit.kindOf(v);
      case 1:
        return circuit.firstOf(v);
      case 2:
        return circuit.secondOf(v);
      default:
        return OUTSIDE;
    }
  }

  public int gate(int kind, int a, int b) {
    if (!circuit.hasLiterals(a, b)) {
      return NONE;
    }
    if (kind != AND && kind != SAME) {
      return OUTSIDE;
    }
    int literal = circuit.gateOf(kind, a, b);
    current.growTo(circuit.size());
    return literal == NONE ? NO_ROOM : literal;
  }

  public int sign(int v, int i) {
    return circuit.nameSign(v, i);
  }

  public int clear() {
    int variables = circuit.size();
    circuit.empty();
    current.separate(circuit.size());
    return variables;
  }

  public int forget() {
    int classes = current.isContradiction() ? WRONG_STATE : current.classes();
    current.separate(circuit.size());
    return classes;
  }

  public int join(int a, int b) {
    if (!circuit.hasLiterals(a, b)) {
      return NONE;
    }
    if (current.isContradiction()) {
      return WRONG_STATE;
    }
    if (current.standing(a) == current.standing(b)) {
      return 0;
    }
    current.unite(a, b);
    return current.isContradiction() ? 2 : 1;
  }

  public int stands(int l) {
    if (!circuit.hasLiteral(l)) {
      return NONE;
    }
    return current.isContradiction() ? WRONG_STATE : current.standing(l);
  }

  public int saturate(int depth, int steps) {
    if (!isUpTo(depth, DEEPEST) || !isUpTo(steps, MOST_STEPS)) {
      return OUTSIDE;
    }
    if (current.isContradiction()) {
      return WRONG_STATE;
    }
    saturator.begin(steps);
    // What is spent must leave no trace, so the work is done on a copy.
    working.copyFrom(current);
    saturator.deepen(working, depth);
    if (saturator.isSpent()) {
      return SPENT;
    }
    current.copyFrom(working);
    return current.isContradiction() ? 0 : 1;
  }

  public int prove(int l, int depth, int steps) {
    if (!circuit.hasLiteral(l)) {
      return NONE;
    }
    if (!isUpTo(depth, DEEPEST) || !isUpTo(steps, MOST_STEPS)) {
      return OUTSIDE;
    }
    saturator.begin(steps);
    working.separate(circuit.size());
    working.unite(l, FALSE);
    for (int reached = 0; reached <= depth; reached++) {
      saturator.deepen(working, reached);
      if (saturator.isSpent()) {
        return SPENT;
      }
      if (working.isContradiction()) {
        return reached;
      }
    }
    return UNPROVED;
  }

  public int told(int what) {
    return saturator.tallyOf(what);
  }

  public int value(int l, int n) {
    if (!circuit.hasLiteral(l)) {
      return NONE;
    }
    // There are at most 24 inputs, so the shift stays within an int.
    if (!isUpTo(n, (1 << circuit.inputs()) - 1)) {
      return OUTSIDE;
    }
    return table.bit(l, n);
  }

  public int model(int l) {
    if (!circuit.hasLiteral(l)) {
      return NONE;
    }
    if (circuit.inputs() > TABLE_INPUTS) {
      return NO_ROOM;
    }
    return table.leastDifference(l, TRUE);
  }

  public int alike(int a, int b) {
    if (!circuit.hasLiterals(a, b)) {
      return NONE;
    }
    if (circuit.inputs() > TABLE_INPUTS) {
      return NO_ROOM;
    }
    return table.leastDifference(a, b) == BY_NONE ? 1 : 0;
  }

  private static boolean isUpTo(int number, int most) {
    return number >= 0 && number <= most;
  }

  /** The bytes that were fed. */
  private static final class Text {
    private final byte[] bytes = new byte[TEXT_ROOM];
    private int length = 0;

    int length() {
      return length;
    }

    void drop() {
      length = 0;
    }

    boolean append(long v, int n) {
      if (n > TEXT_ROOM - length) {
        return false;
      }
      for (int i = n - 1; i >= 0; i--) {
        bytes[length] = (byte) (v >>> (8 * i));
        length++;
      }
      return true;
    }

    /** Below 0 outside the text, so that those who look ahead need no test of their own. */
    int byteAt(int place) {
      return place >= 0 && place < length ? bytes[place] & 255 : NONE;
    }

    boolean hasAt(int place, String word) {
      for (int i = 0; i < word.length(); i++) {
        if (byteAt(place + i) != word.charAt(i)) {
          return false;
        }
      }
      return true;
    }
  }

  /** The variables: TRUE, inputs with their names, gates with their literals. */
  private static final class Circuit {
    private final int[] kinds = new int[VARIABLE_ROOM];
    private final int[] firsts = new int[VARIABLE_ROOM];
    private final int[] seconds = new int[VARIABLE_ROOM];
    private final int[] inputVariables = new int[INPUT_ROOM];
    private final int[][] names = new int[INPUT_ROOM][NAME_ROOM];
    private final int[] nameLengths = new int[INPUT_ROOM];
    private int size = 1;
    private int inputs = 0;

    int size() {
      return size;
    }

    int inputs() {
      return inputs;
    }

    int gates() {
      return size - 1 - inputs;
    }

    boolean isFull() {
      return size >= VARIABLE_ROOM;
    }

    boolean hasVariable(int v) {
      return v >= 0 && v < size;
    }

    boolean hasLiteral(int l) {
      return l >= 0 && l < 2 * size;
    }

    boolean hasLiterals(int a, int b) {
      return hasLiteral(a) && hasLiteral(b);
    }

    int kindOf(int v) {
      return kinds[v];
    }

    int firstOf(int v) {
      return firsts[v];
    }

    int secondOf(int v) {
      return seconds[v];
    }

    void empty() {
      size = 1;
      inputs = 0;
    }

    /** The literal of a gate that there is or that is made now; NONE if there is no room for it. */
    int gateOf(int kind, int a, int b) {
      int lesser = Math.min(a, b);
      int greater = Math.max(a, b);
      for (int v = 1; v < size; v++) {
        if (kinds[v] == kind && firsts[v] == lesser && seconds[v] == greater) {
          return 2 * v;
        }
      }
      return isFull() ? NONE : add(kind, lesser, greater);
    }

    /** The literal of the input whose name stands at a place of the text; NONE if it is new. */
    int inputOf(Text text, int place, int length) {
      for (int i = 0; i < inputs; i++) {
        if (isNamed(i, text, place, length)) {
          return 2 * inputVariables[i];
        }
      }
      return NONE;
    }

    private boolean isNamed(int input, Text text, int place, int length) {
      if (nameLengths[input] != length) {
        return false;
      }
      for (int i = 0; i < length; i++) {
        if (names[input][i] != text.byteAt(place + i)) {
          return false;
        }
      }
      return true;
    }

    /** Whoever calls has seen that there is room for an input and for a variable. */
    int addInput(Text text, int place, int length) {
      int input = inputs;
      for (int i = 0; i < length; i++) {
        names[input][i] = text.byteAt(place + i);
      }
      nameLengths[input] = length;
      inputVariables[input] = size;
      inputs++;
      return add(INPUT, input, 0);
    }

    private int add(int kind, int first, int second) {
      int v = size;
      kinds[v] = kind;
      firsts[v] = first;
      seconds[v] = second;
      size++;
      return 2 * v;
    }

    int nameSign(int v, int i) {
      if (!hasVariable(v) || kinds[v] != INPUT) {
        return NONE;
      }
      int input = firsts[v];
      return i >= 0 && i < nameLengths[input] ? names[input][i] : NONE;
    }
  }

  /**
   * Reads the text by the grammar, one method for each of its lines.
   *
   * <p>A token is looked at only when the grammar needs it, since a fault that is met earlier hides
   * those behind it. From the first fault on every method returns at once, with any literal.
   */
  private static final class Reader {
    private static final int UNSEEN = 0;
    private static final int END = 1;
    private static final int NAME = 2;
    private static final int TRUE_WORD = 3;
    private static final int FALSE_WORD = 4;
    private static final int LEFT = 5;
    private static final int RIGHT = 6;
    private static final int NOT_SIGN = 7;
    private static final int AND_SIGN = 8;
    private static final int XOR_SIGN = 9;
    private static final int OR_SIGN = 10;
    private static final int IMPLIES = 11;
    private static final int EQUALS = 12;

    private static final int NO_TOKEN = 1;
    private static final int MISPLACED = 2;
    private static final int TOO_DEEP = 3;
    private static final int TOO_MANY_INPUTS = 4;
    private static final int TOO_MANY_VARIABLES = 5;

    private final Text text;
    private final Circuit circuit;
    private int token = UNSEEN;
    private int start = 0;
    private int next = 0;
    private int open = 0;
    private int fault = 0;
    private int faultPlace = NONE;

    Reader(Text text, Circuit circuit) {
      this.text = text;
      this.circuit = circuit;
    }

    int fault() {
      return fault;
    }

    int faultPlace() {
      return faultPlace;
    }

    int readAll() {
      token = UNSEEN;
      start = 0;
      next = 0;
      open = 0;
      fault = 0;
      faultPlace = NONE;
      int literal = equality();
      if (look() != END) {
        refuse(MISPLACED, start);
      }
      return literal;
    }

    private int equality() {
      int left = implication();
      for (int i = 0; i < TEXT_ROOM && look() == EQUALS; i++) {
        int at = take();
        left = combine(EQUALS, at, left, implication());
      }
      return left;
    }

    private int implication() {
      int left = disjunction();
      if (look() != IMPLIES) {
        return left;
      }
      int at = take();
      if (!opens(at)) {
        return left;
      }
      int right = implication();
      open--;
      return combine(IMPLIES, at, left, right);
    }

    private int disjunction() {
      int left = difference();
      for (int i = 0; i < TEXT_ROOM && look() == OR_SIGN; i++) {
        int at = take();
        left = combine(OR_SIGN, at, left, difference());
      }
      return left;
    }

    private int difference() {
      int left = conjunction();
      for (int i = 0; i < TEXT_ROOM && look() == XOR_SIGN; i++) {
        int at = take();
        left = combine(XOR_SIGN, at, left, conjunction());
      }
      return left;
    }

    private int conjunction() {
      int left = operand();
      for (int i = 0; i < TEXT_ROOM && look() == AND_SIGN; i++) {
        int at = take();
        left = combine(AND_SIGN, at, left, operand());
      }
      return left;
    }

    /** Negations and brackets are read here, not by methods of their own, to keep the stack low. */
    private int operand() {
      int literal = TRUE;
      switch (look()) {
        case NOT_SIGN:
          if (opens(take())) {
            literal = operand() ^ 1;
            open--;
          }
          return literal;
        case LEFT:
          if (opens(take())) {
            literal = equality();
            close();
          }
          return literal;
        case NAME:
          return name();
        case TRUE_WORD:
          take();
          return TRUE;
        case FALSE_WORD:
          take();
          return FALSE;
        default:
          return refuse(MISPLACED, start);
      }
    }

    private int name() {
      int length = next - start;
      int at = take();
      int literal = circuit.inputOf(text, at, length);
      if (literal != NONE) {
        return literal;
      }
      if (circuit.inputs() >= INPUT_ROOM) {
        return refuse(TOO_MANY_INPUTS, at);
      }
      if (circuit.isFull()) {
        return refuse(TOO_MANY_VARIABLES, at);
      }
      return circuit.addInput(text, at, length);
    }

    private int combine(int sign, int at, int left, int right) {
      // The right side may have met a fault: then no gate may be made of what it returned.
      if (fault != 0) {
        return TRUE;
      }
      int literal = gateFor(sign, left, right);
      if (literal == NONE) {
        return refuse(TOO_MANY_VARIABLES, at);
      }
      boolean turned = sign == OR_SIGN || sign == IMPLIES || sign == XOR_SIGN;
      return turned ? literal ^ 1 : literal;
    }

    private int gateFor(int sign, int left, int right) {
      switch (sign) {
        case AND_SIGN:
          return circuit.gateOf(AND, left, right);
        case OR_SIGN:
          return circuit.gateOf(AND, left ^ 1, right ^ 1);
        case IMPLIES:
          return circuit.gateOf(AND, left, right ^ 1);
        default:
          return circuit.gateOf(SAME, left, right);
      }
    }

    /** This is what keeps the recursion of the methods above low. */
    private boolean opens(int at) {
      if (open >= OPEN_ROOM) {
        refuse(TOO_DEEP, at);
        return false;
      }
      open++;
      return true;
    }

    private void close() {
      if (look() != RIGHT) {
        refuse(MISPLACED, start);
        return;
      }
      take();
      open--;
    }

    /** Only the first fault counts. */
    private int refuse(int number, int at) {
      if (fault == 0) {
        fault = number;
        faultPlace = at;
      }
      return TRUE;
    }

    private int look() {
      if (token == UNSEEN && fault == 0) {
        start = behindBlanks(next);
        if (isLetter(text.byteAt(start))) {
          scanWord();
        } else {
          scanSign();
        }
        if (token == UNSEEN) {
          refuse(NO_TOKEN, start);
        }
      }
      return fault == 0 ? token : UNSEEN;
    }

    /** Goes behind the token that was looked at; its place is returned. */
    private int take() {
      token = UNSEEN;
      return start;
    }

    private void scanWord() {
      int end = behindWord(start);
      int length = end - start;
      if (length > NAME_ROOM) {
        return;
      }
      if (length == 4 && text.hasAt(start, "true")) {
        found(TRUE_WORD, length);
      } else if (length == 5 && text.hasAt(start, "false")) {
        found(FALSE_WORD, length);
      } else {
        found(NAME, length);
      }
    }

    private void scanSign() {
      switch (text.byteAt(start)) {
        case NONE:
          found(END, 0);
          break;
        case '(':
          found(LEFT, 1);
          break;
        case ')':
          found(RIGHT, 1);
          break;
        case '~':
          found(NOT_SIGN, 1);
          break;
        case '&':
          found(AND_SIGN, 1);
          break;
        case '^':
          found(XOR_SIGN, 1);
          break;
        case '|':
          found(OR_SIGN, 1);
          break;
        default:
          if (text.hasAt(start, "->")) {
            found(IMPLIES, 2);
          } else if (text.hasAt(start, "<->")) {
            found(EQUALS, 3);
          }
      }
    }

    private void found(int kind, int length) {
      token = kind;
      next = start + length;
    }

    private int behindBlanks(int from) {
      int at = from;
      for (int i = 0; i < TEXT_ROOM && isBlank(text.byteAt(at)); i++) {
        at++;
      }
      return at;
    }

    private int behindWord(int from) {
      int at = from;
      for (int i = 0; i < TEXT_ROOM && isLetterOrDigit(text.byteAt(at)); i++) {
        at++;
      }
      return at;
    }

    private static boolean isBlank(int sign) {
      return sign == 9 || sign == 10 || sign == 13 || sign == 32;
    }

    private static boolean isLetter(int sign) {
      return sign >= 'a' && sign <= 'z';
    }

    private static boolean isLetterOrDigit(int sign) {
      return (sign >= 'a' && sign <= 'z') || (sign >= '0' && sign <= '9');
    }
  }

  /**
   * Classes of literals. Of each variable only the unturned literal is held, since the class of the
   * turned one is always the turned class.
   */
  private static final class Equivalence {
    private final int[] standing = new int[VARIABLE_ROOM];
    private int size = 0;
    private int classes = 0;
    private boolean contradiction = false;

    Equivalence() {
      growTo(1);
    }

    int size() {
      return size;
    }

    int classes() {
      return classes;
    }

    boolean isContradiction() {
      return contradiction;
    }

    void contradict() {
      contradiction = true;
    }

    void separate(int variables) {
      size = 0;
      classes = 0;
      contradiction = false;
      growTo(variables);
    }

    void growTo(int variables) {
      for (int v = size; v < variables && v < VARIABLE_ROOM; v++) {
        standing[v] = 2 * v;
        classes += 2;
        size++;
      }
    }

    void copyFrom(Equivalence other) {
      System.arraycopy(other.standing, 0, standing, 0, other.size);
      size = other.size;
      classes = other.classes;
      contradiction = other.contradiction;
    }

    /** The least literal of the class of one. */
    int standing(int l) {
      return standing[l >> 1] ^ (l & 1);
    }

    void unite(int a, int b) {
      int lesser = Math.min(standing(a), standing(b));
      int greater = Math.max(standing(a), standing(b));
      if (contradiction || lesser == greater) {
        return;
      }
      if (lesser == (greater ^ 1)) {
        contradiction = true;
        return;
      }
      // No member of the greater class can be less than the literal that stands for it.
      for (int v = greater >> 1; v < size; v++) {
        if ((standing[v] ^ greater) <= 1) {
          standing[v] ^= greater ^ lesser;
        }
      }
      classes -= 2;
    }

    /** Unites what is of one class both there and there; both hold all that is held here. */
    void uniteCommon(Equivalence one, Equivalence other) {
      for (int v = 1; v < size; v++) {
        // Where a variable stands for itself there is no lesser one to be united with.
        if (!one.isLeast(v) && !other.isLeast(v)) {
          uniteWithLesser(v, one, other);
        }
      }
    }

    private void uniteWithLesser(int v, Equivalence one, Equivalence other) {
      for (int w = 0; w < v && isLeast(v); w++) {
        int turn = one.standing[v] ^ one.standing[w];
        if (turn <= 1 && turn == (other.standing[v] ^ other.standing[w])) {
          unite(2 * v, 2 * w + turn);
        }
      }
    }

    private boolean isLeast(int v) {
      return standing[v] == 2 * v;
    }
  }

  /** Saturates equivalences by the rules of the gates, and counts what it does. */
  private static final class Saturator {
    private static final int STEPS = 0;
    private static final int ROUNDS = 1;
    private static final int PASSES = 2;
    private static final int BROKEN_BRANCHES = 3;

    private final Circuit circuit;
    private final Equivalence before = new Equivalence();
    private final Equivalence[] trueBranches = new Equivalence[DEEPEST];
    private final Equivalence[] falseBranches = new Equivalence[DEEPEST];
    private final int[] tallies = new int[4];
    private int mostSteps = 0;
    private boolean spent = false;

    Saturator(Circuit circuit) {
      this.circuit = circuit;
      for (int i = 0; i < DEEPEST; i++) {
        trueBranches[i] = new Equivalence();
        falseBranches[i] = new Equivalence();
      }
    }

    void begin(int steps) {
      for (int i = 0; i < tallies.length; i++) {
        tallies[i] = 0;
      }
      mostSteps = steps;
      spent = false;
    }

    boolean isSpent() {
      return spent;
    }

    int tallyOf(int what) {
      return what >= 0 && what < tallies.length ? tallies[what] : OUTSIDE;
    }

    void deepen(Equivalence held, int depth) {
      settle(held);
      if (depth < 1 || depth > DEEPEST) {
        return;
      }
      boolean fewer = true;
      // A pass that goes on takes a class away, so there are fewer of them than literals.
      for (int i = 0; i < 2 * VARIABLE_ROOM && fewer && goesOn(held); i++) {
        int classes = held.classes();
        pass(held, depth);
        fewer = held.classes() < classes;
        if (fewer && goesOn(held)) {
          settle(held);
        }
      }
    }

    private boolean goesOn(Equivalence held) {
      return !spent && !held.isContradiction();
    }

    private void pass(Equivalence held, int depth) {
      tallies[PASSES]++;
      for (int v = 1; v < held.size() && goesOn(held); v++) {
        if (held.standing(2 * v) > FALSE) {
          split(held, v, depth);
        }
      }
    }

    private void split(Equivalence held, int v, int depth) {
      Equivalence whenTrue = trueBranches[depth - 1];
      Equivalence whenFalse = falseBranches[depth - 1];
      follow(whenTrue, held, 2 * v, depth - 1);
      if (!spent) {
        follow(whenFalse, held, 2 * v + 1, depth - 1);
      }
      if (!spent) {
        merge(held, whenTrue, whenFalse);
      }
    }

    private void follow(Equivalence branch, Equivalence held, int literal, int depth) {
      branch.copyFrom(held);
      branch.unite(literal, TRUE);
      deepen(branch, depth);
      if (branch.isContradiction()) {
        tallies[BROKEN_BRANCHES]++;
      }
    }

    private void merge(Equivalence held, Equivalence whenTrue, Equivalence whenFalse) {
      if (whenTrue.isContradiction() && whenFalse.isContradiction()) {
        held.contradict();
      } else if (whenTrue.isContradiction()) {
        held.copyFrom(whenFalse);
      } else if (whenFalse.isContradiction()) {
        held.copyFrom(whenTrue);
      } else {
        held.uniteCommon(whenTrue, whenFalse);
      }
    }

    /** A saturation to depth 0. */
    private void settle(Equivalence held) {
      if (tallies[STEPS] >= mostSteps) {
        spent = true;
        return;
      }
      tallies[STEPS]++;
      boolean fewer = true;
      for (int i = 0; i < 2 * VARIABLE_ROOM && fewer && goesOn(held); i++) {
        int classes = held.classes();
        round(held);
        fewer = held.classes() < classes;
      }
    }

    private void round(Equivalence held) {
      tallies[ROUNDS]++;
      before.copyFrom(held);
      for (int v = 1; v < circuit.size() && !held.isContradiction(); v++) {
        if (circuit.kindOf(v) == AND) {
          obeyAnd(held, v);
        } else if (circuit.kindOf(v) == SAME) {
          obeySame(held, v);
        }
      }
    }

    /**
     * The rules are asked of the literals that stood for the gate's own when the round began: two
     * were of one class if these are equal, and joining these joins the gate's own.
     */
    private void obeyAnd(Equivalence held, int v) {
      int x = before.standing(2 * v);
      int a = before.standing(circuit.firstOf(v));
      int b = before.standing(circuit.secondOf(v));
      if (a == TRUE) {
        held.unite(x, b);
      }
      if (b == TRUE) {
        held.unite(x, a);
      }
      if (a == FALSE || b == FALSE || a == (b ^ 1)) {
        held.unite(x, FALSE);
      }
      if (a == b) {
        held.unite(x, a);
      }
      if (x == TRUE) {
        held.unite(a, TRUE);
        held.unite(b, TRUE);
      }
      if (x == (a ^ 1)) {
        held.unite(a, TRUE);
        held.unite(b, FALSE);
      }
      if (x == (b ^ 1)) {
        held.unite(b, TRUE);
        held.unite(a, FALSE);
      }
    }

    /** What SAME tells is told alike of any of the three and the other two: each is x once. */
    private void obeySame(Equivalence held, int v) {
      int x = before.standing(2 * v);
      int a = before.standing(circuit.firstOf(v));
      int b = before.standing(circuit.secondOf(v));
      for (int i = 0; i < 3; i++) {
        if (x == TRUE) {
          held.unite(a, b);
        }
        if (x == FALSE) {
          held.unite(a, b ^ 1);
        }
        if (a == b) {
          held.unite(x, TRUE);
        }
        if (a == (b ^ 1)) {
          held.unite(x, FALSE);
        }
        int first = x;
        x = a;
        a = b;
        b = first;
      }
    }
  }

  /** Values of all variables for 64 assignments at once, one in each bit of a word. */
  private static final class Table {
    private static final int WORD_INPUTS = 6;
    private static final long[] WORD_PATTERNS = {
      0xAAAAAAAAAAAAAAAAL,
      0xCCCCCCCCCCCCCCCCL,
      0xF0F0F0F0F0F0F0F0L,
      0xFF00FF00FF00FF00L,
      0xFFFF0000FFFF0000L,
      0xFFFFFFFF00000000L
    };

    private final Circuit circuit;
    private final long[] words = new long[VARIABLE_ROOM];

    Table(Circuit circuit) {
      this.circuit = circuit;
    }

    int bit(int l, int n) {
      fill(n >>> WORD_INPUTS);
      return (int) (word(l) >>> (n & 63)) & 1;
    }

    /** The least assignment for which two literals differ. */
    int leastDifference(int a, int b) {
      int blocks = 1 << Math.max(0, circuit.inputs() - WORD_INPUTS);
      for (int block = 0; block < blocks; block++) {
        fill(block);
        long difference = word(a) ^ word(b);
        // With few inputs a word repeats itself: its lowest bit is among the true assignments.
        if (difference != 0) {
          return (block << WORD_INPUTS) + Long.numberOfTrailingZeros(difference);
        }
      }
      return BY_NONE;
    }

    private long word(int l) {
      return (l & 1) == 0 ? words[l >> 1] : ~words[l >> 1];
    }

    private void fill(int block) {
      for (int v = 0; v < circuit.size(); v++) {
        words[v] = wordOf(v, block);
      }
    }

    private long wordOf(int v, int block) {
      switch (circuit.kindOf(v)) {
        case TRUE_KIND:
          return -1L;
        case INPUT:
          return inputWord(circuit.firstOf(v), block);
        case AND:
          return word(circuit.firstOf(v)) & word(circuit.secondOf(v));
        default:
          return ~(word(circuit.firstOf(v)) ^ word(circuit.secondOf(v)));
      }
    }

    private static long inputWord(int input, int block) {
      if (input < WORD_INPUTS) {
        return WORD_PATTERNS[input];
      }
      return -(long) ((block >>> (input - WORD_INPUTS)) & 1);
    }
  }
}
