import java.lang.reflect.InvocationTargetException;
import java.lang.reflect.Method;
import java.util.ArrayList;
import java.util.Arrays;
import java.util.HashMap;
import java.util.LinkedHashMap;
import java.util.List;
import java.util.Map;
import java.util.Random;
import java.util.TreeMap;
import java.util.TreeSet;

/**
 * Long runs of mixed calls on Shardmoor and on a model that is written another way: values as trees, a map of
 * documents for each shard, copies and index entries that are kept with each write.
 */
public final class ModelTest {
  private static final int RUNS = 1200;
  private static final int CALLS = 512;

  public static void main(String[] args) throws Exception {
    Map<String, Method> methods = new HashMap<>();
    for (Method method : Shardmoor.class.getDeclaredMethods()) {
      if (java.lang.reflect.Modifier.isPublic(method.getModifiers())) {
        methods.put(method.getName(), method);
      }
    }
    if (methods.size() != 42) {
      System.out.println("there are " + methods.size() + " public methods, due are 42");
      System.exit(1);
    }
    Map<String, Integer> thrown = new HashMap<>();
    for (int run = 0; run < RUNS; run++) {
      if (!new Run(run, methods, thrown).agrees()) {
        System.exit(1);
      }
    }
    System.out.println(RUNS + " runs agree with the model");
    if (args.length > 0) {
      new TreeMap<>(thrown).forEach((call, times) -> System.out.println(call + " " + times));
    }
  }

  /** One run, with the calls that it made. */
  static final class Run {
    private final Random random;
    private final int number;
    private final Map<String, Method> methods;
    private final Map<String, Integer> thrown;
    private final Shardmoor mine = new Shardmoor();
    private final Model model = new Model();
    private final List<String> told = new ArrayList<>();
    private final int style;
    private boolean failed = false;

    Run(int number, Map<String, Method> methods, Map<String, Integer> thrown) {
      this.number = number;
      this.methods = methods;
      this.thrown = thrown;
      this.random = new Random(number);
      this.style = number % 6;
    }

    boolean agrees() throws Exception {
      while (told.size() < CALLS && !failed) {
        step();
      }
      return !failed;
    }

    int pick(int bound) {
      return random.nextInt(bound);
    }

    void call(String name, Object... args) throws Exception {
      if (told.size() >= CALLS || failed) {
        return;
      }
      Method method = methods.get(name);
      Object want = answer(Model.class.getMethod(name, method.getParameterTypes()), model, args);
      Object got = answer(method, mine, args);
      told.add(name + Arrays.toString(args) + " = " + got);
      thrown.merge(name + (got instanceof String ? " " + got : ""), 1, Integer::sum);
      if (!want.equals(got)) {
        failed = true;
        told.forEach(System.out::println);
        System.out.println("run " + number + ": the last answer was " + got + ", by the model due is " + want);
      }
    }

    private static Object answer(Method method, Object target, Object[] args) throws IllegalAccessException {
      try {
        return method.invoke(target, args);
      } catch (InvocationTargetException e) {
        Class<?> kind = e.getCause().getClass();
        if (kind == IllegalArgumentException.class || kind == IllegalStateException.class
            || kind == IndexOutOfBoundsException.class) {
          return "throws " + kind.getSimpleName();
        }
        throw new IllegalStateException(e.getCause());
      }
    }

    int wild() {
      int[] some = {-1, 0, 1, 2, 3, 4, 5, 6, 7, 8, 11, 12, 20, 21, 24, 71, 72, 99, 100, -999, -1000, 999, 1000, 1001,
          333, 334, Integer.MAX_VALUE, Integer.MIN_VALUE};
      return some[pick(some.length)];
    }

    int path() {
      return pick(3) > 0 ? pick(4) : 8 + 8 * pick(4) + pick(3);
    }

    /** Mostly the number of a document that there is. */
    int document() {
      List<Integer> all = new ArrayList<>(model.all().keySet());
      return pick(20) == 0 || all.isEmpty() ? wild() : all.get(pick(all.size()));
    }

    /** Mostly a number that is free. */
    int free() {
      int number = pick(30) == 0 ? wild() : pick(style == 4 ? 100 : 30);
      for (int i = 0; i < 100 && model.get(number) != null && pick(30) > 0; i++) {
        number = pick(100);
      }
      return number;
    }

    int router() {
      return pick(60) == 0 ? wild() : pick(2);
    }

    void value(int depth) throws Exception {
      int kind = pick(depth > 2 ? 6 : 11);
      if (kind == 0) {
        call("nothing");
      } else if (kind < 4) {
        call("number", pick(8) == 0 ? pick(1999) - 999 : pick(5));
      } else if (kind < 6) {
        call("word", pick(4) == 0 ? pick(100) : pick(3));
      } else if (kind < 9) {
        call("row");
        for (int i = pick(pick(9) == 0 ? 12 : 4); i > 0; i--) {
          value(depth + 1);
          call("add");
        }
      } else {
        object(depth, pick(4));
      }
    }

    void object(int depth, int many) throws Exception {
      call("object");
      for (int i = 0; i < many; i++) {
        value(depth + 1);
        call("give", pick(4));
      }
    }

    void insert() throws Exception {
      call("object");
      if (pick(12) > 0) {
        call("number", pick(10) == 0 ? -pick(50) : pick(1000));
        call("give", 0);
      }
      if (style == 2) {
        for (int field = 1; field < 3; field++) {
          call(pick(6) == 0 ? "word" : "number", pick(3));
          call("give", field);
        }
      }
      for (int i = style == 4 ? 0 : pick(style == 2 ? 2 : 4); i > 0; i--) {
        value(1);
        call("give", style == 2 ? 3 : pick(4));
      }
      call("insert", router(), free());
      if (pick(5) == 0) {
        call("drop");
      }
    }

    void update() throws Exception {
      int operator = pick(40) == 0 ? wild() : pick(6);
      if (style == 2 && pick(4) > 0) {
        call("number", pick(3));
        call("update", router(), document(), 1 + pick(2), 0);
        return;
      }
      if (operator != 1 && pick(20) > 0) {
        if (operator == 2 || operator == 5 && pick(8) > 0) {
          call("number", pick(6) == 0 ? pick(1999) - 999 : pick(7) - 3);
        } else if (operator == 0 && pick(3) == 0) {
          call("number", pick(1000));
        } else {
          value(2);
        }
      }
      call("update", router(), document(), operator == 0 && pick(3) == 0 ? 0 : pick(40) == 0 ? wild() : path(), operator);
      if (pick(3) == 0) {
        call("drop");
      }
    }

    /** Queries of few shapes, so that the plans for them are used again and again. */
    void plainQuery() throws Exception {
      call("clear");
      int shape = pick(4);
      for (int field = 1; field < 3; field++) {
        if (shape > 0 || field == 1) {
          call(pick(9) == 0 ? "word" : "number", pick(3));
          call("filter", shape == 3 ? 3 - field : field, shape == 2 ? field - 1 : 0);
        }
      }
      look();
    }

    void query() throws Exception {
      if (style == 2 && pick(4) > 0) {
        plainQuery();
        return;
      }
      if (pick(2) == 0) {
        call("clear");
      }
      for (int i = pick(4); i > 0; i--) {
        int relation = pick(40) == 0 ? wild() : pick(5);
        if (relation == 4 || (relation == 1 || relation == 2) && pick(3) > 0) {
          call("number", pick(4));
        } else if (pick(25) > 0) {
          value(1);
        }
        call("filter", pick(40) == 0 ? wild() : path(), relation);
      }
      look();
    }

    void look() throws Exception {
      call("find", router());
      call("findAnew");
      for (int what = 0; what < 5; what++) {
        if (what < 2 || pick(3) == 0) {
          call("plan", what);
        }
      }
      if (pick(4) == 0) {
        call("found", pick(1 + model.found.size()));
      }
      if (pick(3) == 0) {
        call("group", path(), path());
        for (int i = pick(4); i > 0; i--) {
          call("grouped", pick(1 + model.groups.size()), pick(3));
        }
      }
    }

    void shards() throws Exception {
      switch (pick(9)) {
        case 0: call("split", pick(6), pick(1000)); break;
        case 1: case 2: call("move", pick(4), pick(3)); break;
        case 3: case 4: call("copy", pick(9) == 0 ? 20 : 1 + pick(3)); break;
        case 5: call("handOver"); break;
        case 6: if (pick(3) == 0) call("giveUp"); break;
        case 7: if (pick(2) == 0) call("clean", pick(3)); break;
        default: if (pick(4) == 0) call("key", pick(3), pick(2) == 0); break;
      }
      call("chunk", pick(6), pick(4));
      call("shard", pick(3), pick(3));
    }

    void tell() throws Exception {
      switch (pick(9)) {
        case 0: call("document", document(), pick(3)); break;
        case 1: call("print", document()); call("print", document()); break;
        case 2: call("entries", pick(3)); call("entriesAnew", pick(3)); break;
        case 3: call("chunk", pick(7), pick(4)); break;
        case 4: call("shard", pick(3), pick(3)); break;
        case 5: call("router", pick(2), pick(2)); break;
        case 6: call("next", pick(4) == 0 ? wild() : pick(200)); break;
        case 7: call("change", pick(4) == 0 ? wild() : pick(100), pick(3)); break;
        default: call("documents"); call("now"); break;
      }
    }

    void anything() throws Exception {
      List<Method> all = new ArrayList<>(methods.values());
      all.sort((a, b) -> a.getName().compareTo(b.getName()));
      Method method = all.get(pick(all.size()));
      Object[] args = new Object[method.getParameterCount()];
      for (int i = 0; i < args.length; i++) {
        args[i] = method.getParameterTypes()[i] == boolean.class ? (Object) (pick(2) == 0) : (Object) wild();
      }
      call(method.getName(), args);
    }

    void step() throws Exception {
      int[][] weights = {
        {16, 20, 6, 10, 10, 3, 2, 6, 2},
        {14, 25, 1, 30, 10, 1, 1, 1, 2},
        {22, 14, 14, 0, 3, 5, 1, 1, 1},
        {8, 40, 3, 3, 15, 2, 1, 4, 1},
        {90, 3, 1, 5, 3, 1, 1, 1, 1},
        {25, 8, 4, 4, 10, 2, 6, 5, 8}};
      int[] weight = weights[style];
      int sum = 0;
      for (int each : weight) {
        sum += each;
      }
      int drawn = pick(sum);
      int what = 0;
      while (drawn >= weight[what]) {
        drawn -= weight[what++];
      }
      switch (what) {
        case 0: insert(); break;
        case 1: update(); break;
        case 2: query(); break;
        case 3: shards(); break;
        case 4: tell(); break;
        case 5: if (pick(3) > 0) call("index", style == 2 ? 1 + pick(3) : path(), pick(2) == 0); else call("dropIndex", pick(3)); break;
        case 6: if (pick(2) == 0) call("expire", pick(2) * pick(5) - 1); else call("tick", 1 + pick(pick(20) + 1)); break;
        case 7: if (pick(3) == 0) call("rule", pick(4), pick(2) * pick(5)); else call("remove", router(), document()); break;
        default: anything(); break;
      }
    }
  }

  /** A value as a tree. */
  static final class Tree implements Comparable<Tree> {
    final int kind;
    int number;
    List<Tree> parts = new ArrayList<>();
    TreeMap<Integer, Tree> fields = new TreeMap<>();

    Tree(int kind, int number) {
      this.kind = kind;
      this.number = number;
    }

    Tree copied() {
      Tree copy = new Tree(kind, number);
      parts.forEach(part -> copy.parts.add(part.copied()));
      fields.forEach((field, value) -> copy.fields.put(field, value.copied()));
      return copy;
    }

    int size() {
      int size = 1;
      for (Tree part : parts) {
        size += part.size();
      }
      for (Tree value : fields.values()) {
        size += value.size();
      }
      return size;
    }

    long print(long print) {
      long p = 31 * print + kind;
      if (kind == 2 || kind == 3) {
        p = 31 * p + number;
      } else if (kind == 4) {
        p = 31 * p + parts.size();
        for (Tree part : parts) {
          p = part.print(p);
        }
      } else if (kind == 5) {
        p = 31 * p + fields.size();
        for (Map.Entry<Integer, Tree> entry : fields.entrySet()) {
          p = entry.getValue().print(31 * p + entry.getKey());
        }
      }
      return p;
    }

    @Override
    public int compareTo(Tree other) {
      if (kind != other.kind) {
        return Integer.compare(kind, other.kind);
      }
      if (number != other.number) {
        return Integer.compare(number, other.number);
      }
      for (int i = 0; i < parts.size() && i < other.parts.size(); i++) {
        int order = parts.get(i).compareTo(other.parts.get(i));
        if (order != 0) {
          return order;
        }
      }
      if (parts.size() != other.parts.size()) {
        return Integer.compare(parts.size(), other.parts.size());
      }
      List<Integer> mine = new ArrayList<>(fields.keySet());
      List<Integer> others = new ArrayList<>(other.fields.keySet());
      for (int i = 0; i < mine.size() && i < others.size(); i++) {
        if (!mine.get(i).equals(others.get(i))) {
          return mine.get(i).compareTo(others.get(i));
        }
        int order = fields.get(mine.get(i)).compareTo(other.fields.get(others.get(i)));
        if (order != 0) {
          return order;
        }
      }
      return Integer.compare(mine.size(), others.size());
    }

    List<Tree> at(int path) {
      List<Tree> bases = new ArrayList<>();
      if (path < 8) {
        if (fields.containsKey(path)) {
          bases.add(fields.get(path));
        }
      } else {
        Tree first = fields.get((path - 8) / 8);
        int second = (path - 8) % 8;
        List<Tree> objects = first == null ? List.of() : first.kind == 5 ? List.of(first) : first.parts;
        for (Tree object : objects) {
          if (object.fields.containsKey(second)) {
            bases.add(object.fields.get(second));
          }
        }
      }
      List<Tree> all = new ArrayList<>();
      for (Tree base : bases) {
        all.add(base);
        all.addAll(base.parts);
      }
      return all;
    }
  }

  static final class Index {
    int path;
    boolean isSparse;
    Map<Integer, TreeSet<Tree>> entries = new TreeMap<>();

    TreeSet<Tree> entriesOf(Tree document) {
      TreeSet<Tree> values = new TreeSet<>(document.at(path));
      if (values.isEmpty() && !isSparse) {
        values.add(new Tree(1, 0));
      }
      return values;
    }
  }

  record Filter(int path, int relation, Tree value) {
    boolean fits(Tree had) {
      switch (relation) {
        case 0: return had.compareTo(value) == 0;
        case 1: return (value.kind == 2 || value.kind == 3) && had.kind == value.kind && had.number < value.number;
        case 2: return (value.kind == 2 || value.kind == 3) && had.kind == value.kind && had.number > value.number;
        case 3: return true;
        default: return had.kind == 4 && had.parts.size() == value.number;
      }
    }
  }

  static final class Chunk {
    int first;
    int shard;

    Chunk(int first, int shard) {
      this.first = first;
      this.shard = shard;
    }
  }

  /** What Shardmoor has to answer. */
  public static final class Model {
    private final List<Tree> pile = new ArrayList<>();
    private final List<TreeMap<Integer, Tree>> shards = new ArrayList<>();
    private final int[] orphans = new int[3];
    private final TreeMap<Integer, Tree> copies = new TreeMap<>();
    private final List<Chunk> chunks = new ArrayList<>();
    private Chunk moving = null;
    private int target = -1;
    private int version = 1;
    private final int[] known = {1, 1};
    private final int[] stale = new int[2];
    private int keyField = 0;
    private boolean isHashed = false;
    private final int[] rules = new int[8];
    private final Index[] indexes = new Index[3];
    private final List<Filter> filters = new ArrayList<>();
    private final Map<String, int[]> plans = new LinkedHashMap<>();
    private List<Integer> found = new ArrayList<>();
    private final int[] latest = {-1, 0, 0, 0};
    private final List<long[]> groups = new ArrayList<>();
    private final List<int[]> stream = new ArrayList<>();
    private int expiring = -1;
    private int now = 0;

    public Model() {
      for (int i = 0; i < 3; i++) {
        shards.add(new TreeMap<>());
      }
      freshChunks();
    }

    private void freshChunks() {
      chunks.clear();
      chunks.add(new Chunk(0, 0));
      chunks.add(new Chunk(334, 1));
      chunks.add(new Chunk(667, 2));
    }

    private static void argument(boolean holds) {
      if (!holds) {
        throw new IllegalArgumentException();
      }
    }

    private static void state(boolean holds) {
      if (!holds) {
        throw new IllegalStateException();
      }
    }

    private static void bound(boolean holds) {
      if (!holds) {
        throw new IndexOutOfBoundsException();
      }
    }

    private static boolean in(int value, int low, int high) {
      return low <= value && value <= high;
    }

    private int put(Tree value) {
      state(pile.size() < 10);
      pile.add(value);
      return pile.size();
    }

    public int nothing() {
      return put(new Tree(1, 0));
    }

    public int number(int number) {
      argument(in(number, -999, 999));
      return put(new Tree(2, number));
    }

    public int word(int word) {
      argument(in(word, 0, 99));
      return put(new Tree(3, word));
    }

    public int row() {
      return put(new Tree(4, 0));
    }

    public int object() {
      return put(new Tree(5, 0));
    }

    private Tree top() {
      return pile.get(pile.size() - 1);
    }

    private Tree take() {
      return pile.remove(pile.size() - 1);
    }

    public int add() {
      state(pile.size() >= 2 && pile.get(pile.size() - 2).kind == 4);
      Tree lower = pile.get(pile.size() - 2);
      state(lower.size() + top().size() <= 24);
      lower.parts.add(take());
      return pile.size();
    }

    public int give(int field) {
      argument(in(field, 0, 7));
      state(pile.size() >= 2 && pile.get(pile.size() - 2).kind == 5);
      Tree given = pile.get(pile.size() - 2).copied();
      given.fields.put(field, top());
      state(given.size() <= 24);
      pile.set(pile.size() - 2, given);
      take();
      return pile.size();
    }

    public int drop() {
      int had = pile.size();
      pile.clear();
      return had;
    }

    private int key(Tree document) {
      Tree value = document.fields.get(keyField);
      int kind = value == null ? 0 : value.kind;
      if (!isHashed) {
        return kind == 2 && value.number > 0 ? value.number : 0;
      }
      return kind == 2 ? 7919 * (value.number + 1000) % 1000 : kind == 3 ? (104729 * value.number + 500) % 1000 : 250;
    }

    private Chunk chunkOf(Tree document) {
      Chunk best = null;
      for (Chunk chunk : chunks) {
        if (chunk.first <= key(document)) {
          best = chunk;
        }
      }
      return best;
    }

    private int where(int number) {
      for (int i = 0; i < 3; i++) {
        if (shards.get(i).containsKey(number)) {
          return i;
        }
      }
      return -1;
    }

    private Tree get(int number) {
      return where(number) < 0 ? null : shards.get(where(number)).get(number);
    }

    private TreeMap<Integer, Tree> all() {
      TreeMap<Integer, Tree> all = new TreeMap<>();
      shards.forEach(all::putAll);
      return all;
    }

    private void route(int router) {
      if (known[router] != version) {
        known[router] = version;
        stale[router]++;
      }
    }

    private boolean keeps(Tree document, int field, int kind) {
      return kind == 0 || document.fields.containsKey(field) && document.fields.get(field).kind == kind + 1;
    }

    private boolean keepsAll(Tree document) {
      for (int field = 0; field < 8; field++) {
        if (!keeps(document, field, rules[field])) {
          return false;
        }
      }
      return true;
    }

    private void takeOut(int number) {
      shards.get(where(number)).remove(number);
      copies.remove(number);
      for (Index index : indexes) {
        if (index != null) {
          index.entries.remove(number);
        }
      }
    }

    private void bring(int number, Tree document) {
      Chunk chunk = chunkOf(document);
      shards.get(chunk.shard).put(number, document);
      if (chunk == moving) {
        copies.put(number, document.copied());
      }
      for (Index index : indexes) {
        if (index != null) {
          index.entries.put(number, index.entriesOf(document));
        }
      }
    }

    public int insert(int router, int number) {
      argument(in(router, 0, 1) && in(number, 0, 99));
      state(!pile.isEmpty() && top().kind == 5 && get(number) == null && all().size() < 60 && keepsAll(top()));
      bring(number, take());
      route(router);
      stream.add(new int[] {0, number, where(number)});
      return where(number);
    }

    public boolean update(int router, int number, int path, int operator) {
      bound(get(number) != null);
      argument(in(router, 0, 1) && in(path, 0, 71) && in(operator, 0, 5));
      state(operator == 1 || !pile.isEmpty());
      Tree changed = get(number).copied();
      apply(changed, path, operator, operator == 1 ? null : top().copied());
      state(changed.size() <= 24 && keepsAll(changed));
      if (operator != 1) {
        take();
      }
      route(router);
      if (changed.compareTo(get(number)) == 0) {
        return false;
      }
      takeOut(number);
      bring(number, changed);
      stream.add(new int[] {1, number, where(number)});
      return true;
    }

    private void apply(Tree document, int path, int operator, Tree top) {
      state(operator != 2 && operator != 5 || top.kind == 2);
      Tree object = document;
      int field = path;
      if (path >= 8) {
        field = (path - 8) % 8;
        int first = (path - 8) / 8;
        object = document.fields.get(first);
        state(object == null || object.kind == 5);
        if (object == null) {
          object = new Tree(5, 0);
          if (operator == 0 || operator == 2 || operator == 3) {
            document.fields.put(first, object);
          }
        }
      }
      Tree there = object.fields.get(field);
      switch (operator) {
        case 0:
          object.fields.put(field, top);
          break;
        case 1:
          object.fields.remove(field);
          break;
        case 2:
          state(there == null || there.kind == 2);
          object.fields.put(field, new Tree(2, inRange((there == null ? 0 : there.number) + top.number)));
          break;
        case 3:
          state(there == null || there.kind == 4);
          object.fields.computeIfAbsent(field, none -> new Tree(4, 0)).parts.add(top);
          break;
        case 4:
          state(there == null || there.kind == 4);
          if (there != null) {
            there.parts.removeIf(part -> part.compareTo(top) == 0);
          }
          break;
        default:
          state(there == null || there.kind == 4);
          if (there != null) {
            for (Tree part : there.parts) {
              part.number = part.kind == 2 ? inRange(part.number + top.number) : part.number;
            }
          }
      }
    }

    private static int inRange(int sum) {
      state(in(sum, -999, 999));
      return sum;
    }

    public int remove(int router, int number) {
      bound(get(number) != null);
      argument(in(router, 0, 1));
      route(router);
      return go(number);
    }

    private int go(int number) {
      int shard = where(number);
      takeOut(number);
      stream.add(new int[] {2, number, shard});
      return shard;
    }

    public int rule(int field, int kind) {
      argument(in(field, 0, 7) && in(kind, 0, 4));
      state(all().values().stream().allMatch(document -> keeps(document, field, kind)));
      int before = rules[field];
      rules[field] = kind;
      return before;
    }

    public int index(int path, boolean isSparse) {
      argument(in(path, 0, 71));
      int free = -1;
      for (int i = 2; i >= 0; i--) {
        state(indexes[i] == null || indexes[i].path != path);
        free = indexes[i] == null ? i : free;
      }
      state(free >= 0);
      Index index = new Index();
      index.path = path;
      index.isSparse = isSparse;
      all().forEach((number, document) -> index.entries.put(number, index.entriesOf(document)));
      indexes[free] = index;
      return free;
    }

    private Index there(int index) {
      bound(in(index, 0, 2) && indexes[index] != null);
      return indexes[index];
    }

    public int dropIndex(int index) {
      there(index);
      indexes[index] = null;
      int before = plans.size();
      plans.values().removeIf(plan -> plan[0] == index);
      return before - plans.size();
    }

    public int filter(int path, int relation) {
      argument(in(path, 0, 71) && in(relation, 0, 4));
      state(!pile.isEmpty() && filters.size() < 3 && (relation != 4 || top().kind == 2));
      filters.add(new Filter(path, relation, take()));
      return filters.size();
    }

    public int clear() {
      int had = filters.size();
      filters.clear();
      return had;
    }

    private boolean fits(Tree document) {
      return filters.stream().allMatch(filter -> document.at(filter.path).stream().anyMatch(filter::fits));
    }

    private int looks(int plan) {
      if (plan < 0) {
        return all().size();
      }
      Filter filter = filters.stream().filter(each -> each.relation < 3 && each.path == indexes[plan].path).findFirst().get();
      return (int) indexes[plan].entries.values().stream().filter(values -> values.stream().anyMatch(filter::fits)).count();
    }

    public int find(int router) {
      argument(in(router, 0, 1));
      route(router);
      StringBuilder shape = new StringBuilder();
      filters.forEach(filter -> shape.append(filter.path).append(':').append(filter.relation).append(' '));
      int[] plan = plans.get(shape.toString());
      latest[2] = 0;
      latest[3] = 0;
      if (plan != null && looks(plan[0]) > 2 * plan[1] + 2) {
        plans.remove(shape.toString());
        plan = null;
        latest[3] = 1;
      }
      if (plan == null) {
        List<int[]> tried = new ArrayList<>();
        for (int i = 0; i < 3; i++) {
          int path = indexes[i] == null ? -1 : indexes[i].path;
          if (filters.stream().anyMatch(filter -> filter.path == path && filter.relation < 3)) {
            tried.add(new int[] {i, looks(i)});
          }
        }
        tried.add(new int[] {-1, looks(-1)});
        latest[2] = tried.size();
        tried.sort((a, b) -> Integer.compare(a[1], b[1]));
        plan = tried.get(0);
        plans.put(shape.toString(), plan);
      }
      latest[0] = plan[0];
      latest[1] = looks(plan[0]);
      found = new ArrayList<>();
      all().forEach((number, document) -> {
        if (fits(document)) {
          found.add(number);
        }
      });
      return found.size();
    }

    public int found(int place) {
      bound(in(place, 0, found.size() - 1));
      return found.get(place);
    }

    public int findAnew() {
      return (int) all().values().stream().filter(this::fits).count();
    }

    public int plan(int what) {
      argument(in(what, 0, 4));
      return what == 4 ? plans.size() : latest[what];
    }

    public int group(int path, int sum) {
      argument(in(path, 0, 71) && in(sum, 0, 71));
      TreeMap<Tree, long[]> all = new TreeMap<>();
      for (int number : found) {
        Tree document = get(number);
        if (document != null) {
          long numbers = document.at(sum).stream().filter(value -> value.kind == 2).mapToLong(value -> value.number).sum();
          for (Tree value : document.at(path)) {
            if (value.kind != 4) {
              long[] group = all.computeIfAbsent(value, key -> new long[] {key.print(7), 0, 0});
              group[1]++;
              group[2] += numbers;
            }
          }
        }
      }
      groups.clear();
      groups.addAll(all.values());
      return groups.size();
    }

    public long grouped(int place, int what) {
      bound(in(place, 0, groups.size() - 1));
      argument(in(what, 0, 2));
      return groups.get(place)[what];
    }

    private Chunk at(int chunk) {
      bound(in(chunk, 0, chunks.size() - 1));
      return chunks.get(chunk);
    }

    public int split(int chunk, int at) {
      Chunk cut = at(chunk);
      int end = chunk + 1 < chunks.size() ? chunks.get(chunk + 1).first : 1000;
      argument(in(at, cut.first + 1, end - 1));
      state(cut != moving && chunks.size() < 12);
      chunks.add(chunk + 1, new Chunk(at, cut.shard));
      version++;
      return chunks.size();
    }

    private TreeMap<Integer, Tree> documentsOf(Chunk chunk) {
      TreeMap<Integer, Tree> documents = new TreeMap<>();
      all().forEach((number, document) -> {
        if (chunkOf(document) == chunk) {
          documents.put(number, document);
        }
      });
      return documents;
    }

    private List<Integer> left() {
      List<Integer> left = new ArrayList<>(documentsOf(moving).keySet());
      left.removeAll(copies.keySet());
      return left;
    }

    public int move(int chunk, int shard) {
      Chunk begun = at(chunk);
      argument(in(shard, 0, 2));
      state(begun.shard != shard && moving == null);
      moving = begun;
      target = shard;
      return left().size();
    }

    public int copy(int many) {
      argument(in(many, 1, 20));
      state(moving != null);
      List<Integer> left = left();
      left.subList(0, Math.min(many, left.size())).forEach(number -> copies.put(number, get(number).copied()));
      return left().size();
    }

    public int handOver() {
      state(moving != null && left().isEmpty());
      TreeMap<Integer, Tree> gone = documentsOf(moving);
      state(gone.keySet().equals(copies.keySet()));
      for (int number : gone.keySet()) {
        if (gone.get(number).compareTo(copies.get(number)) != 0) {
          throw new UnsupportedOperationException("a copy is not up to date");
        }
        shards.get(moving.shard).remove(number);
        shards.get(target).put(number, copies.get(number));
      }
      orphans[moving.shard] += gone.size();
      moving.shard = target;
      version++;
      giveUp();
      return gone.size();
    }

    public int giveUp() {
      state(moving != null);
      int had = copies.size();
      copies.clear();
      moving = null;
      target = -1;
      return had;
    }

    public int clean(int shard) {
      argument(in(shard, 0, 2));
      int had = orphans[shard];
      orphans[shard] = 0;
      return had;
    }

    public int key(int field, boolean hashed) {
      argument(in(field, 0, 7));
      state(moving == null);
      keyField = field;
      isHashed = hashed;
      freshChunks();
      version++;
      Arrays.fill(orphans, 0);
      int moved = 0;
      for (Map.Entry<Integer, Tree> entry : all().entrySet()) {
        int from = where(entry.getKey());
        int to = chunkOf(entry.getValue()).shard;
        shards.get(from).remove(entry.getKey());
        shards.get(to).put(entry.getKey(), entry.getValue());
        moved += from == to ? 0 : 1;
      }
      return moved;
    }

    public int expire(int field) {
      argument(in(field, -1, 7));
      int before = expiring;
      expiring = field;
      return before;
    }

    public int tick(int ticks) {
      argument(in(ticks, 1, 20));
      int gone = 0;
      for (int i = 0; i < ticks; i++) {
        now++;
        for (Map.Entry<Integer, Tree> entry : all().entrySet()) {
          Tree value = entry.getValue().fields.get(expiring);
          if (value != null && value.kind == 2 && value.number <= now) {
            go(entry.getKey());
            gone++;
          }
        }
      }
      return gone;
    }

    public int documents() {
      return all().size();
    }

    public int document(int number, int what) {
      argument(in(what, 0, 2));
      Tree document = get(number);
      return document == null ? -1 : what == 0 ? where(number) : what == 1 ? key(document) : document.size();
    }

    public long print(int number) {
      bound(get(number) != null);
      return get(number).print(7);
    }

    public int entries(int index) {
      return there(index).entries.values().stream().mapToInt(TreeSet::size).sum();
    }

    public int entriesAnew(int index) {
      Index anew = there(index);
      return all().values().stream().mapToInt(document -> anew.entriesOf(document).size()).sum();
    }

    public int chunk(int chunk, int what) {
      Chunk told = at(chunk);
      argument(in(what, 0, 3));
      int[] answers = {told.first, told.shard, documentsOf(told).size(), told == moving ? 1 : 0};
      return answers[what];
    }

    public int shard(int shard, int what) {
      argument(in(shard, 0, 2) && in(what, 0, 2));
      int[] answers = {shards.get(shard).size(), orphans[shard], shard == target ? copies.size() : 0};
      return answers[what];
    }

    public int router(int router, int what) {
      argument(in(router, 0, 1) && in(what, 0, 1));
      return what == 0 ? known[router] : stale[router];
    }

    public int next(int token) {
      for (int time = 1; time <= stream.size(); time++) {
        if (time > token) {
          return time;
        }
      }
      return -1;
    }

    public int change(int time, int what) {
      bound(in(time, 1, stream.size()));
      argument(in(what, 0, 2));
      return stream.get(time - 1)[what];
    }

    public int now() {
      return now;
    }
  }
}
