/** Documents in shards, as the document of the project, ../shared/DOC.md, tells them. */
public final class Shardmoor {
  private static final int LEAST_NUMBER = -999;
  private static final int GREATEST_NUMBER = 999;
  private static final int WORDS = 100;
  private static final int FIELDS = 8;
  private static final int PATHS = 72;
  private static final int MOST_PILED = 10;
  private static final int MOST_PARTS = 24;

  /** Each part is one sign, has one more if it ends with END, and one more if it stands behind a field. */
  private static final int MOST_SIGNS = 3 * MOST_PARTS;

  /** Room for a document and a value together, and the signs of an object and a row made between them. */
  private static final int DRAFT_SIGNS = 2 * MOST_SIGNS + 8;

  private static final int NUMBERS = 100;
  private static final int MOST_DOCUMENTS = 60;
  private static final int SHARDS = 3;
  private static final int KEYS = 1000;
  private static final int MOST_CHUNKS = 12;
  private static final int ROUTERS = 2;
  private static final int MOST_INDEXES = 3;
  private static final int MOST_FILTERS = 3;
  private static final int MOST_COPIED = 20;
  private static final int MOST_TICKS = 20;

  /** Far above what 512 calls can make: one entry, and one plan, take at least one call. */
  private static final int MOST_ENTRIES = 1024;
  private static final int MOST_PLANS = 512;

  private static final int KIND_NUMBER = 1;
  private static final int KIND_WORD = 2;
  private static final int KIND_ROW = 3;
  private static final int KIND_OBJECT = 4;

  private static final int SET = 0;
  private static final int UNSET = 1;
  private static final int ADD = 2;
  private static final int PUSH = 3;
  private static final int PULL = 4;
  private static final int EACH = 5;

  private static final int SAME = 0;
  private static final int LESS = 1;
  private static final int GREATER = 2;
  private static final int HAS = 3;
  private static final int WIDTH = 4;

  private static final int TOLD = 0;
  private static final int CHANGED = 1;
  private static final int REMOVED = 2;

  private static final int NONE = -1;

  private final Pile pile = new Pile();
  private final Store store = new Store();
  private final Chart chart = new Chart();
  private final Stream stream = new Stream();
  private final Editor editor = new Editor();
  private final Indexes indexes = new Indexes();
  private final Query query = new Query();
  private final Groups groups = new Groups();
  private int expiringField = NONE;
  private int ticked = 0;

  public Shardmoor() {
  }

  // ---- the pile

  public int nothing() throws IllegalStateException {
    return pileUp(Value.NOTHING);
  }

  public int number(int number) throws IllegalArgumentException, IllegalStateException {
    if (!isNumber(number)) {
      throw new IllegalArgumentException("no such number");
    }
    return pileUp(Value.ZERO + number);
  }

  public int word(int word) throws IllegalArgumentException, IllegalStateException {
    if (word < 0 || word >= WORDS) {
      throw new IllegalArgumentException("no such word");
    }
    return pileUp(Value.WORD + word);
  }

  public int row() throws IllegalStateException {
    return pileUp(Value.ROW);
  }

  public int object() throws IllegalStateException {
    return pileUp(Value.OBJECT);
  }

  public int add() throws IllegalStateException {
    Value lower = pile.below();
    Value top = pile.top();
    if (lower.kindAt(0) != KIND_ROW) {
      throw new IllegalStateException("no row below the top value");
    }
    if (lower.parts() + top.parts() > MOST_PARTS) {
      throw new IllegalStateException("too many parts");
    }
    lower.putBehind(0, top);
    return pile.takeTop();
  }

  public int give(int field) throws IllegalArgumentException, IllegalStateException {
    if (!isField(field)) {
      throw new IllegalArgumentException("no such field");
    }
    Value lower = pile.below();
    Value top = pile.top();
    if (lower.kindAt(0) != KIND_OBJECT) {
      throw new IllegalStateException("no object below the top value");
    }
    int replaced = lower.partsAt(lower.placeOf(0, field));
    if (lower.parts() - replaced + top.parts() > MOST_PARTS) {
      throw new IllegalStateException("too many parts");
    }
    lower.setField(0, field, top);
    return pile.takeTop();
  }

  public int drop() {
    return pile.takeAll();
  }

  // ---- documents

  public int insert(int router, int number) throws IllegalArgumentException, IllegalStateException {
    if (!isRouter(router) || number < 0 || number >= NUMBERS) {
      throw new IllegalArgumentException("no such router or number");
    }
    Value top = pile.top();
    if (top.kindAt(0) != KIND_OBJECT || !store.keepsRules(top)) {
      throw new IllegalStateException("no object, or one that does not keep a rule");
    }
    if (store.has(number) || store.size() >= MOST_DOCUMENTS) {
      throw new IllegalStateException("there is such a document, or there are too many");
    }
    store.put(number, top);
    pile.takeTop();
    return tellChange(TOLD, number, router);
  }

  public boolean update(int router, int number, int path, int operator)
      throws IndexOutOfBoundsException, IllegalArgumentException, IllegalStateException {
    if (!store.has(number)) {
      throw new IndexOutOfBoundsException("no such document");
    }
    if (!isRouter(router) || !isPath(path) || operator < SET || operator > EACH) {
      throw new IllegalArgumentException("no such router, path or operator");
    }
    if (operator != UNSET && pile.isEmpty()) {
      throw new IllegalStateException("the pile is empty");
    }
    Value document = store.at(number);
    if (!editor.canEdit(document, path, operator, pile.top())) {
      throw new IllegalStateException("a value of another kind, or a number out of range");
    }
    Value draft = editor.edited();
    if (draft.parts() > MOST_PARTS || !store.keepsRules(draft)) {
      throw new IllegalStateException("too many parts, or a rule is not kept");
    }
    if (operator != UNSET) {
      pile.takeTop();
    }
    if (Value.order(draft, 0, document, 0) == 0) {
      chart.useRouter(router);
      return false;
    }
    store.put(number, draft);
    tellChange(CHANGED, number, router);
    return true;
  }

  public int remove(int router, int number) throws IndexOutOfBoundsException, IllegalArgumentException {
    if (!store.has(number)) {
      throw new IndexOutOfBoundsException("no such document");
    }
    if (!isRouter(router)) {
      throw new IllegalArgumentException("no such router");
    }
    chart.useRouter(router);
    return takeAway(number);
  }

  public int rule(int field, int kind) throws IllegalArgumentException, IllegalStateException {
    if (!isField(field) || kind < 0 || kind > KIND_OBJECT) {
      throw new IllegalArgumentException("no such field or kind");
    }
    if (!store.allKeep(field, kind)) {
      throw new IllegalStateException("a document does not keep it");
    }
    return store.setRule(field, kind);
  }

  // ---- indexes, queries

  public int index(int path, boolean isSparse) throws IllegalArgumentException, IllegalStateException {
    if (!isPath(path)) {
      throw new IllegalArgumentException("no such path");
    }
    int free = indexes.lowestFree();
    if (free == NONE || indexes.hasPath(path)) {
      throw new IllegalStateException("too many indexes, or one with the path");
    }
    indexes.make(free, path, isSparse);
    return free;
  }

  public int dropIndex(int index) throws IndexOutOfBoundsException {
    if (!indexes.has(index)) {
      throw new IndexOutOfBoundsException("no such index");
    }
    return indexes.abolish(index);
  }

  public int filter(int path, int relation) throws IllegalArgumentException, IllegalStateException {
    if (!isPath(path) || relation < SAME || relation > WIDTH) {
      throw new IllegalArgumentException("no such path or relation");
    }
    if (pile.isEmpty() || query.isFull()) {
      throw new IllegalStateException("the pile is empty, or there are too many filters");
    }
    if (relation == WIDTH && pile.top().kindAt(0) != KIND_NUMBER) {
      throw new IllegalStateException("the value is no number");
    }
    query.addFilter(path, relation, pile.top());
    pile.takeTop();
    return query.size();
  }

  public int clear() {
    return query.takeAllFilters();
  }

  public int find(int router) throws IllegalArgumentException {
    if (!isRouter(router)) {
      throw new IllegalArgumentException("no such router");
    }
    chart.useRouter(router);
    query.choosePlan(store, indexes);
    return query.search(store);
  }

  public int found(int place) throws IndexOutOfBoundsException {
    if (place < 0 || place >= query.foundSize()) {
      throw new IndexOutOfBoundsException("not so many are found");
    }
    return query.foundAt(place);
  }

  public int findAnew() {
    return query.countFitting(store);
  }

  public int plan(int what) throws IllegalArgumentException {
    if (what < 0 || what > 4) {
      throw new IllegalArgumentException("no such thing to tell");
    }
    return what == 4 ? indexes.plansKept() : query.latest(what);
  }

  public int group(int path, int sum) throws IllegalArgumentException {
    if (!isPath(path) || !isPath(sum)) {
      throw new IllegalArgumentException("no such path");
    }
    return groups.build(store, query, path, sum);
  }

  public long grouped(int place, int what) throws IndexOutOfBoundsException, IllegalArgumentException {
    if (place < 0 || place >= groups.size()) {
      throw new IndexOutOfBoundsException("not so many groups");
    }
    if (what < 0 || what > 2) {
      throw new IllegalArgumentException("no such thing to tell");
    }
    return groups.tell(place, what);
  }

  // ---- shards

  public int split(int chunk, int at)
      throws IndexOutOfBoundsException, IllegalArgumentException, IllegalStateException {
    if (!chart.has(chunk)) {
      throw new IndexOutOfBoundsException("no such chunk");
    }
    if (at <= chart.firstOf(chunk) || at >= chart.endOf(chunk)) {
      throw new IllegalArgumentException("no key of it, or its first one");
    }
    if (chart.isMoving(chunk) || chart.size() >= MOST_CHUNKS) {
      throw new IllegalStateException("it moves, or there are too many");
    }
    chart.cut(chunk, at);
    return chart.size();
  }

  public int move(int chunk, int shard)
      throws IndexOutOfBoundsException, IllegalArgumentException, IllegalStateException {
    if (!chart.has(chunk)) {
      throw new IndexOutOfBoundsException("no such chunk");
    }
    if (!isShard(shard)) {
      throw new IllegalArgumentException("no such shard");
    }
    if (chart.ownerOf(chunk) == shard || chart.hasMove()) {
      throw new IllegalStateException("it is of that shard, or one moves");
    }
    chart.beginMove(chunk, shard);
    return chart.countLeft(store);
  }

  public int copy(int many) throws IllegalArgumentException, IllegalStateException {
    if (many < 1 || many > MOST_COPIED) {
      throw new IllegalArgumentException("not so many");
    }
    if (!chart.hasMove()) {
      throw new IllegalStateException("none moves");
    }
    chart.copySome(store, many);
    return chart.countLeft(store);
  }

  public int handOver() throws IllegalStateException {
    if (!chart.hasMove() || chart.countLeft(store) > 0) {
      throw new IllegalStateException("none moves, or some are not copied");
    }
    return chart.finishMove(store);
  }

  public int giveUp() throws IllegalStateException {
    if (!chart.hasMove()) {
      throw new IllegalStateException("none moves");
    }
    return chart.endMove();
  }

  public int clean(int shard) throws IllegalArgumentException {
    if (!isShard(shard)) {
      throw new IllegalArgumentException("no such shard");
    }
    return chart.takeOrphans(shard);
  }

  public int key(int field, boolean isHashed) throws IllegalArgumentException, IllegalStateException {
    if (!isField(field)) {
      throw new IllegalArgumentException("no such field");
    }
    if (chart.hasMove()) {
      throw new IllegalStateException("a chunk moves");
    }
    return chart.shardAnew(store, field, isHashed);
  }

  // ---- time

  public int expire(int field) throws IllegalArgumentException {
    if (field != NONE && !isField(field)) {
      throw new IllegalArgumentException("no such field");
    }
    int before = expiringField;
    expiringField = field;
    return before;
  }

  public int tick(int ticks) throws IllegalArgumentException {
    if (ticks < 1 || ticks > MOST_TICKS) {
      throw new IllegalArgumentException("not so many");
    }
    int gone = 0;
    for (int i = 0; i < ticks; i++) {
      ticked++;
      for (int number = 0; number < NUMBERS; number++) {
        if (isExpired(number)) {
          takeAway(number);
          gone++;
        }
      }
    }
    return gone;
  }

  // ---- what there is

  public int documents() {
    return store.size();
  }

  public int document(int number, int what) throws IllegalArgumentException {
    if (what < 0 || what > 2) {
      throw new IllegalArgumentException("no such thing to tell");
    }
    if (!store.has(number)) {
      return -1;
    }
    Value document = store.at(number);
    if (what == 0) {
      return chart.shardOf(document);
    }
    return what == 1 ? chart.keyOf(document) : document.parts();
  }

  public long print(int number) throws IndexOutOfBoundsException {
    if (!store.has(number)) {
      throw new IndexOutOfBoundsException("no such document");
    }
    return store.at(number).printAt(0);
  }

  public int entries(int index) throws IndexOutOfBoundsException {
    if (!indexes.has(index)) {
      throw new IndexOutOfBoundsException("no such index");
    }
    return indexes.countEntries(store, index);
  }

  public int entriesAnew(int index) throws IndexOutOfBoundsException {
    if (!indexes.has(index)) {
      throw new IndexOutOfBoundsException("no such index");
    }
    return indexes.countEntries(store, index);
  }

  public int chunk(int chunk, int what) throws IndexOutOfBoundsException, IllegalArgumentException {
    if (!chart.has(chunk)) {
      throw new IndexOutOfBoundsException("no such chunk");
    }
    if (what < 0 || what > 3) {
      throw new IllegalArgumentException("no such thing to tell");
    }
    if (what == 0) {
      return chart.firstOf(chunk);
    }
    if (what == 1) {
      return chart.ownerOf(chunk);
    }
    return what == 2 ? chart.countIn(store, chunk) : chart.isMoving(chunk) ? 1 : 0;
  }

  public int shard(int shard, int what) throws IllegalArgumentException {
    if (!isShard(shard) || what < 0 || what > 2) {
      throw new IllegalArgumentException("no such shard or thing to tell");
    }
    if (what == 0) {
      return chart.countAt(store, shard);
    }
    return what == 1 ? chart.orphansOf(shard) : chart.copiesAt(shard);
  }

  public int router(int router, int what) throws IllegalArgumentException {
    if (!isRouter(router) || what < 0 || what > 1) {
      throw new IllegalArgumentException("no such router or thing to tell");
    }
    return what == 0 ? chart.routerVersion(router) : chart.routerStale(router);
  }

  public int next(int token) {
    return stream.firstBehind(token);
  }

  public int change(int time, int what) throws IndexOutOfBoundsException, IllegalArgumentException {
    if (!stream.has(time)) {
      throw new IndexOutOfBoundsException("no such entry");
    }
    if (what < 0 || what > 2) {
      throw new IllegalArgumentException("no such thing to tell");
    }
    return stream.tell(time, what);
  }

  public int now() {
    return ticked;
  }

  // ---- what several calls share

  private static boolean isNumber(int number) {
    return number >= LEAST_NUMBER && number <= GREATEST_NUMBER;
  }

  private static boolean isField(int field) {
    return field >= 0 && field < FIELDS;
  }

  private static boolean isPath(int path) {
    return path >= 0 && path < PATHS;
  }

  private static boolean isShard(int shard) {
    return shard >= 0 && shard < SHARDS;
  }

  private static boolean isRouter(int router) {
    return router >= 0 && router < ROUTERS;
  }

  private int pileUp(int sign) {
    if (pile.isFull()) {
      throw new IllegalStateException("the pile is full");
    }
    return pile.put(sign);
  }

  /** Tells the stream, the move and the router of a document as it is now; returns its shard. */
  private int tellChange(int what, int number, int router) {
    Value document = store.at(number);
    int shard = chart.shardOf(document);
    chart.useRouter(router);
    chart.copyAtOnce(number, document);
    stream.put(what, number, shard);
    return shard;
  }

  /** Removes a document; returns the shard in which it lay. */
  private int takeAway(int number) {
    int shard = chart.shardOf(store.at(number));
    store.takeOut(number);
    chart.dropCopy(number);
    stream.put(REMOVED, number, shard);
    return shard;
  }

  private boolean isExpired(int number) {
    if (expiringField == NONE || !store.has(number)) {
      return false;
    }
    Value document = store.at(number);
    int at = document.placeOf(0, expiringField);
    return document.kindAt(at) == KIND_NUMBER && document.numberAt(at) <= ticked;
  }

  /**
   * A value, written as a row of signs: nothing, a number or a word is one sign; a row is ROW, its parts
   * and END; an object is OBJECT, the sign of each of its fields with the value behind it, and END.
   * The signs are numbered so that of two values the one is ahead whose sign is less where they first differ.
   */
  private static final class Value {
    static final int END = 0;
    static final int FIELD = 1;
    static final int NOTHING = 9;
    static final int ZERO = 2000;
    static final int WORD = 3000;
    static final int ROW = 4000;
    static final int OBJECT = 5000;

    private final int[] signs;
    private int length = 0;

    Value(int room) {
      signs = new int[room < 0 ? 0 : room];
    }

    /** By how much a sign leads deeper. */
    static int turnOf(int sign) {
      if (sign >= ROW) {
        return 1;
      }
      return sign == END ? -1 : 0;
    }

    /** Below 0 if the value at a place of the one is ahead of that at a place of the other, 0 if they are the same. */
    static int order(Value one, int at, Value other, int otherAt) {
      int depth = 0;
      for (int i = 0; i < one.length; i++) {
        int sign = one.signAt(at + i);
        int otherSign = other.signAt(otherAt + i);
        if (sign != otherSign) {
          return sign < otherSign ? -1 : 1;
        }
        depth += turnOf(sign);
        if (depth <= 0) {
          return 0;
        }
      }
      return 0;
    }

    int signAt(int at) {
      return at >= 0 && at < length && at < signs.length ? signs[at] : END;
    }

    /** The kind at a place, 0 for nothing, and for no place. */
    int kindAt(int at) {
      int sign = signAt(at);
      if (sign >= OBJECT) {
        return KIND_OBJECT;
      }
      if (sign >= ROW) {
        return KIND_ROW;
      }
      if (sign >= WORD) {
        return KIND_WORD;
      }
      return sign >= ZERO + LEAST_NUMBER ? KIND_NUMBER : 0;
    }

    int numberAt(int at) {
      return signAt(at) - ZERO;
    }

    int wordAt(int at) {
      return signAt(at) - WORD;
    }

    /** Where the value ends that begins at a place: the place behind its last sign. */
    int endOf(int at) {
      int depth = 0;
      for (int i = at; i < length; i++) {
        depth += turnOf(signAt(i));
        if (depth <= 0) {
          return i + 1;
        }
      }
      return length;
    }

    int parts() {
      return partsAt(0);
    }

    /** How many parts the value at a place has, itself and all in it; 0 for no place. */
    int partsAt(int at) {
      int parts = 0;
      int end = at < 0 ? at : endOf(at);
      for (int i = at; i < end; i++) {
        if (signAt(i) >= NOTHING) {
          parts++;
        }
      }
      return parts;
    }

    /** How many parts a row has, or fields an object, not counting what is in these. */
    int widthAt(int at) {
      int depth = 0;
      int width = 0;
      for (int i = at; i < length; i++) {
        int sign = signAt(i);
        if (depth == 1 && sign >= NOTHING) {
          width++;
        }
        depth += turnOf(sign);
        if (depth <= 0) {
          return width;
        }
      }
      return width;
    }

    /** Where the sign of a field stands in the object at a place, or belongs if it is missing. */
    int slotOf(int object, int field) {
      int depth = 0;
      for (int i = object + 1; i < length; i++) {
        int sign = signAt(i);
        if (depth == 0 && (sign == END || sign < NOTHING && sign >= FIELD + field)) {
          return i;
        }
        depth += turnOf(sign);
      }
      return length;
    }

    /** Where the value of a field stands in the object at a place; NONE if it is missing. */
    int placeOf(int object, int field) {
      int slot = slotOf(object, field);
      return signAt(slot) == FIELD + field ? slot + 1 : NONE;
    }

    long printAt(int at) {
      long print = 7;
      int depth = 0;
      for (int i = at; i < length; i++) {
        int sign = signAt(i);
        print = printOn(print, sign, i);
        depth += turnOf(sign);
        if (depth <= 0) {
          return print;
        }
      }
      return print;
    }

    private long printOn(long print, int sign, int at) {
      if (sign == END) {
        return print;
      }
      if (sign < NOTHING) {
        return 31 * print + (sign - FIELD);
      }
      int kind = kindAt(at);
      long begun = 31 * print + (kind + 1);
      if (kind == KIND_NUMBER) {
        return 31 * begun + numberAt(at);
      }
      if (kind == KIND_WORD) {
        return 31 * begun + wordAt(at);
      }
      return kind == 0 ? begun : 31 * begun + widthAt(at);
    }

    /** Becomes what one sign tells: a leaf, an empty row or an empty object. */
    void become(int sign) {
      length = 0;
      putSign(0, sign);
      if (sign >= ROW) {
        putSign(1, END);
      }
    }

    void become(Value other) {
      length = 0;
      putValue(0, 0, other);
    }

    void setSign(int at, int sign) {
      if (at >= 0 && at < length && at < signs.length) {
        signs[at] = sign;
      }
    }

    private void putSign(int at, int sign) {
      makeRoom(at, at, 1);
      setSign(at, sign);
    }

    /** Puts a value in place of the signs from one place to ahead of another. */
    private void putValue(int from, int to, Value value) {
      makeRoom(from, to, value.length);
      for (int i = 0; i < value.length; i++) {
        setSign(from + i, value.signAt(i));
      }
    }

    void takeOut(int from, int to) {
      makeRoom(from, to, 0);
    }

    /** Makes the stretch from one place to ahead of another so many signs long. */
    private void makeRoom(int from, int to, int many) {
      int newLength = length - (to - from) + many;
      if (from < 0 || to < from || to > length || length > signs.length || many < 0 || newLength > signs.length) {
        return;
      }
      System.arraycopy(signs, to, signs, from + many, length - to);
      length = newLength;
    }

    /** Puts a value behind the last part of the row at a place. */
    void putBehind(int row, Value value) {
      int end = endOf(row) - 1;
      putValue(end, end, value);
    }

    void setField(int object, int field, Value value) {
      int slot = slotOf(object, field);
      if (signAt(slot) == FIELD + field) {
        putValue(slot + 1, endOf(slot + 1), value);
      } else {
        putSign(slot, FIELD + field);
        putValue(slot + 1, slot + 1, value);
      }
    }

    void takeField(int object, int field) {
      int slot = slotOf(object, field);
      if (signAt(slot) == FIELD + field) {
        takeOut(slot, endOf(slot + 1));
      }
    }
  }

  /** The pile of the values that are told. */
  private static final class Pile {
    private final Value[] values = new Value[MOST_PILED];
    private final Value none = new Value(0);
    private int size = 0;

    Pile() {
      for (int i = 0; i < values.length; i++) {
        values[i] = new Value(MOST_SIGNS);
      }
    }

    boolean isEmpty() {
      return size == 0;
    }

    boolean isFull() {
      return size >= values.length;
    }

    int put(int sign) {
      if (!isFull()) {
        size++;
        top().become(sign);
      }
      return size;
    }

    /** The top value; a value of no kind if the pile is empty. */
    Value top() {
      return at(size - 1);
    }

    /** The value below the top one; a value of no kind if there are not two. */
    Value below() {
      return at(size - 2);
    }

    private Value at(int place) {
      Value value = place >= 0 && place < values.length ? values[place] : none;
      return value == null ? none : value;
    }

    int takeTop() {
      if (size > 0) {
        size--;
      }
      return size;
    }

    int takeAll() {
      int had = size;
      size = 0;
      return had;
    }
  }

  /** Where in a document the values begin that it has at a path. */
  private static final class Places {
    private final int[] places = new int[MOST_PARTS];
    private int count = 0;

    int size() {
      return count;
    }

    int at(int i) {
      return i >= 0 && i < count && i < places.length ? places[i] : NONE;
    }

    void gather(Value document, int path) {
      count = 0;
      if (path < FIELDS) {
        take(document, document.placeOf(0, path));
        return;
      }
      int first = document.placeOf(0, path / FIELDS - 1);
      int second = path % FIELDS;
      int kind = document.kindAt(first);
      if (kind == KIND_OBJECT) {
        take(document, document.placeOf(first, second));
      }
      if (kind == KIND_ROW) {
        takeOfEach(document, first, second);
      }
    }

    /** Takes what each object that is a part of a row has at a field: of these are the signs of fields at depth 1. */
    private void takeOfEach(Value document, int row, int field) {
      int depth = 0;
      for (int i = row + 1; i < document.length && depth >= 0; i++) {
        int sign = document.signAt(i);
        if (depth == 1 && sign == Value.FIELD + field) {
          take(document, i + 1);
        }
        depth += Value.turnOf(sign);
      }
    }

    /** Takes a place, and behind it, if a row begins there, those of its parts. */
    private void take(Value document, int at) {
      if (at < 0) {
        return;
      }
      note(at);
      if (document.signAt(at) != Value.ROW) {
        return;
      }
      int depth = 0;
      for (int i = at + 1; i < document.length && depth >= 0; i++) {
        int sign = document.signAt(i);
        if (depth == 0 && sign != Value.END) {
          note(i);
        }
        depth += Value.turnOf(sign);
      }
    }

    private void note(int at) {
      if (count >= 0 && count < places.length) {
        places[count] = at;
        count++;
      }
    }
  }

  /** The documents, by their numbers, and the rules for their fields. */
  private static final class Store {
    private final Value[] values = new Value[NUMBERS];
    private final boolean[] isThere = new boolean[NUMBERS];
    private final int[] rules = new int[FIELDS];
    private final Value none = new Value(0);
    private int count = 0;

    Store() {
      for (int i = 0; i < values.length; i++) {
        values[i] = new Value(MOST_SIGNS);
      }
    }

    int size() {
      return count;
    }

    boolean has(int number) {
      return number >= 0 && number < isThere.length && isThere[number];
    }

    /** A document; a value of no kind if there is none. */
    Value at(int number) {
      Value value = has(number) && number < values.length ? values[number] : none;
      return value == null ? none : value;
    }

    void put(int number, Value value) {
      if (number < 0 || number >= isThere.length) {
        return;
      }
      if (!isThere[number]) {
        isThere[number] = true;
        count++;
      }
      at(number).become(value);
    }

    void takeOut(int number) {
      if (number >= 0 && number < isThere.length && isThere[number]) {
        isThere[number] = false;
        count--;
      }
    }

    boolean keepsRules(Value document) {
      for (int field = 0; field < rules.length; field++) {
        if (!keeps(document, field, rules[field])) {
          return false;
        }
      }
      return true;
    }

    boolean allKeep(int field, int kind) {
      for (int number = 0; number < NUMBERS; number++) {
        if (has(number) && !keeps(at(number), field, kind)) {
          return false;
        }
      }
      return true;
    }

    private static boolean keeps(Value document, int field, int kind) {
      return kind == 0 || document.kindAt(document.placeOf(0, field)) == kind;
    }

    /** Sets a rule; returns the kind before. */
    int setRule(int field, int kind) {
      if (field < 0 || field >= rules.length) {
        return 0;
      }
      int before = rules[field];
      rules[field] = kind;
      return before;
    }
  }

  /** Updates a draft of a document, so that the document itself stays if that cannot be done. */
  private static final class Editor {
    private final Value draft = new Value(DRAFT_SIGNS);
    private final Value made = new Value(MOST_SIGNS);

    Value edited() {
      return draft;
    }

    /** Whether each value is of the kind that is needed, and no number gets out of range. */
    boolean canEdit(Value document, int path, int operator, Value top) {
      draft.become(document);
      if ((operator == ADD || operator == EACH) && top.kindAt(0) != KIND_NUMBER) {
        return false;
      }
      if (path < FIELDS) {
        return editField(0, path, operator, top);
      }
      int first = path / FIELDS - 1;
      int at = draft.placeOf(0, first);
      if (at >= 0) {
        return draft.kindAt(at) == KIND_OBJECT && editField(at, path % FIELDS, operator, top);
      }
      if (operator == UNSET || operator == PULL || operator == EACH) {
        return true;
      }
      made.become(Value.OBJECT);
      draft.setField(0, first, made);
      return editField(draft.placeOf(0, first), path % FIELDS, operator, top);
    }

    private boolean editField(int object, int field, int operator, Value top) {
      int at = draft.placeOf(object, field);
      switch (operator) {
        case SET:
          draft.setField(object, field, top);
          return true;
        case UNSET:
          draft.takeField(object, field);
          return true;
        case ADD:
          return addTo(object, field, top.numberAt(0));
        case PUSH:
          return pushTo(object, field, top);
        case PULL:
          return at < 0 || draft.kindAt(at) == KIND_ROW && pullFrom(at, top);
        default:
          return at < 0 || draft.kindAt(at) == KIND_ROW && addToEach(at, top.numberAt(0));
      }
    }

    private boolean addTo(int object, int field, int number) {
      int at = draft.placeOf(object, field);
      if (at < 0) {
        made.become(Value.ZERO + number);
        draft.setField(object, field, made);
        return true;
      }
      return draft.kindAt(at) == KIND_NUMBER && addAt(at, number);
    }

    private boolean addAt(int at, int number) {
      int sum = draft.numberAt(at) + number;
      if (!isNumber(sum)) {
        return false;
      }
      draft.setSign(at, Value.ZERO + sum);
      return true;
    }

    private boolean pushTo(int object, int field, Value value) {
      if (draft.placeOf(object, field) < 0) {
        made.become(Value.ROW);
        draft.setField(object, field, made);
      }
      int at = draft.placeOf(object, field);
      if (draft.kindAt(at) != KIND_ROW) {
        return false;
      }
      draft.putBehind(at, value);
      return true;
    }

    private boolean pullFrom(int row, Value value) {
      int at = row + 1;
      for (int i = 0; i < MOST_PARTS && draft.signAt(at) != Value.END; i++) {
        int end = draft.endOf(at);
        if (Value.order(draft, at, value, 0) == 0) {
          draft.takeOut(at, end);
        } else {
          at = end;
        }
      }
      return true;
    }

    private boolean addToEach(int row, int number) {
      int at = row + 1;
      for (int i = 0; i < MOST_PARTS && draft.signAt(at) != Value.END; i++) {
        if (draft.kindAt(at) == KIND_NUMBER && !addAt(at, number)) {
          return false;
        }
        at = draft.endOf(at);
      }
      return true;
    }
  }

  /** The entries of the stream; the time of the first is 1. */
  private static final class Stream {
    private final int[] whats = new int[MOST_ENTRIES];
    private final int[] numbers = new int[MOST_ENTRIES];
    private final int[] shards = new int[MOST_ENTRIES];
    private int count = 0;

    void put(int what, int number, int shard) {
      if (count >= 0 && count < MOST_ENTRIES) {
        whats[count] = what;
        numbers[count] = number;
        shards[count] = shard;
        count++;
      }
    }

    boolean has(int time) {
      return time >= 1 && time <= count;
    }

    int firstBehind(int token) {
      int time = Math.max(token, 0);
      return time < count ? time + 1 : -1;
    }

    int tell(int time, int what) {
      int at = time - 1;
      if (at < 0 || at >= count || at >= MOST_ENTRIES) {
        return -1;
      }
      if (what == 0) {
        return whats[at];
      }
      return what == 1 ? numbers[at] : shards[at];
    }
  }

  /** The map of the chunks, the chunk that moves, the orphans, and what the routers know of the map. */
  private static final class Chart {
    private final int[] firsts = new int[MOST_CHUNKS];
    private final int[] owners = new int[MOST_CHUNKS];
    private final int[] orphans = new int[SHARDS];
    private final boolean[] isCopied = new boolean[NUMBERS];
    private final int[] routerVersions = new int[ROUTERS];
    private final int[] routerStales = new int[ROUTERS];
    private final int[] shardsBefore = new int[NUMBERS];
    private int count = 0;
    private int version = 1;
    private int keyField = 0;
    private boolean isHashed = false;
    private int moving = NONE;
    private int target = NONE;

    Chart() {
      beginChunks();
      for (int i = 0; i < routerVersions.length; i++) {
        routerVersions[i] = version;
      }
    }

    private void beginChunks() {
      for (int shard = 0; shard < SHARDS; shard++) {
        firsts[shard] = shard == 0 ? 0 : 333 * shard + 1;
        owners[shard] = shard;
        orphans[shard] = 0;
      }
      count = SHARDS;
    }

    int size() {
      return count;
    }

    boolean has(int chunk) {
      return chunk >= 0 && chunk < count && chunk < MOST_CHUNKS;
    }

    int firstOf(int chunk) {
      return has(chunk) ? firsts[chunk] : KEYS;
    }

    /** The key behind the last one of a chunk. */
    int endOf(int chunk) {
      return firstOf(chunk + 1);
    }

    int ownerOf(int chunk) {
      return has(chunk) ? owners[chunk] : NONE;
    }

    int keyOf(Value document) {
      int at = document.placeOf(0, keyField);
      int kind = document.kindAt(at);
      if (!isHashed) {
        return kind == KIND_NUMBER ? Math.max(0, document.numberAt(at)) : 0;
      }
      if (kind == KIND_NUMBER) {
        return 7919 * (document.numberAt(at) + 1000) % KEYS;
      }
      return kind == KIND_WORD ? (104729 * document.wordAt(at) + 500) % KEYS : 250;
    }

    private int chunkOf(Value document) {
      int key = keyOf(document);
      int chunk = 0;
      for (int i = 1; i < count; i++) {
        if (firstOf(i) <= key) {
          chunk = i;
        }
      }
      return chunk;
    }

    int shardOf(Value document) {
      return ownerOf(chunkOf(document));
    }

    int countIn(Store store, int chunk) {
      int many = 0;
      for (int number = 0; number < NUMBERS; number++) {
        if (store.has(number) && chunkOf(store.at(number)) == chunk) {
          many++;
        }
      }
      return many;
    }

    int countAt(Store store, int shard) {
      int many = 0;
      for (int number = 0; number < NUMBERS; number++) {
        if (store.has(number) && shardOf(store.at(number)) == shard) {
          many++;
        }
      }
      return many;
    }

    void cut(int chunk, int at) {
      if (!has(chunk) || count < 0 || count >= MOST_CHUNKS) {
        return;
      }
      for (int i = count; i > chunk + 1; i--) {
        firsts[i] = firsts[i - 1];
        owners[i] = owners[i - 1];
      }
      firsts[chunk + 1] = at;
      owners[chunk + 1] = owners[chunk];
      count++;
      version++;
      if (moving > chunk) {
        moving++;
      }
    }

    boolean hasMove() {
      return moving != NONE;
    }

    boolean isMoving(int chunk) {
      return hasMove() && chunk == moving;
    }

    void beginMove(int chunk, int shard) {
      moving = chunk;
      target = shard;
    }

    /** Whether a document is of the chunk that moves, and not copied. */
    private boolean isLeft(Store store, int number) {
      return store.has(number) && chunkOf(store.at(number)) == moving
          && number >= 0 && number < isCopied.length && !isCopied[number];
    }

    int countLeft(Store store) {
      int left = 0;
      for (int number = 0; number < NUMBERS; number++) {
        if (isLeft(store, number)) {
          left++;
        }
      }
      return left;
    }

    void copySome(Store store, int many) {
      int left = many;
      for (int number = 0; number < isCopied.length && left > 0; number++) {
        if (isLeft(store, number)) {
          isCopied[number] = true;
          left--;
        }
      }
    }

    /** Copies a document that has come or changed, if it is of the chunk that moves; otherwise it has no copy. */
    void copyAtOnce(int number, Value document) {
      if (number >= 0 && number < isCopied.length) {
        isCopied[number] = hasMove() && chunkOf(document) == moving;
      }
    }

    void dropCopy(int number) {
      if (number >= 0 && number < isCopied.length) {
        isCopied[number] = false;
      }
    }

    /** Hands the chunk that moves over; returns how many documents it has. */
    int finishMove(Store store) {
      int many = countIn(store, moving);
      int from = ownerOf(moving);
      if (from >= 0 && from < orphans.length) {
        orphans[from] += many;
      }
      if (moving >= 0 && moving < owners.length) {
        owners[moving] = target;
      }
      version++;
      endMove();
      return many;
    }

    /** Ends a move; returns how many copies there were. */
    int endMove() {
      int copies = 0;
      for (int number = 0; number < isCopied.length; number++) {
        if (isCopied[number]) {
          copies++;
        }
        isCopied[number] = false;
      }
      moving = NONE;
      target = NONE;
      return copies;
    }

    int copiesAt(int shard) {
      int copies = 0;
      for (int number = 0; number < isCopied.length && shard == target; number++) {
        if (isCopied[number]) {
          copies++;
        }
      }
      return copies;
    }

    int orphansOf(int shard) {
      return shard >= 0 && shard < orphans.length ? orphans[shard] : 0;
    }

    int takeOrphans(int shard) {
      int many = orphansOf(shard);
      if (shard >= 0 && shard < orphans.length) {
        orphans[shard] = 0;
      }
      return many;
    }

    /** Shards by another key; returns how many documents lie in another shard by that. */
    int shardAnew(Store store, int field, boolean isHashedNow) {
      for (int number = 0; number < shardsBefore.length; number++) {
        shardsBefore[number] = shardOf(store.at(number));
      }
      keyField = field;
      isHashed = isHashedNow;
      version++;
      beginChunks();
      int many = 0;
      for (int number = 0; number < shardsBefore.length; number++) {
        if (store.has(number) && shardOf(store.at(number)) != shardsBefore[number]) {
          many++;
        }
      }
      return many;
    }

    void useRouter(int router) {
      if (router < 0 || router >= ROUTERS || routerVersions[router] == version) {
        return;
      }
      routerVersions[router] = version;
      routerStales[router]++;
    }

    int routerVersion(int router) {
      return router >= 0 && router < ROUTERS ? routerVersions[router] : NONE;
    }

    int routerStale(int router) {
      return router >= 0 && router < ROUTERS ? routerStales[router] : NONE;
    }
  }

  /** One of the things that a query asks of a document. */
  private static final class Filter {
    private final Value value = new Value(MOST_SIGNS);
    private int path = 0;
    private int relation = 0;

    void become(int newPath, int newRelation, Value newValue) {
      path = newPath;
      relation = newRelation;
      value.become(newValue);
    }

    /** A number for the path and the relation together, above 0. */
    int shape() {
      return path * (WIDTH + 1) + relation + 1;
    }

    /** Whether an index with a path can look by this filter. */
    boolean isFor(int indexedPath) {
      return path == indexedPath && (relation == SAME || relation == LESS || relation == GREATER);
    }

    /** Whether one of the values fits that a document has at these places. */
    boolean fitsSome(Value document, Places places) {
      for (int i = 0; i < places.size(); i++) {
        if (fits(document, places.at(i))) {
          return true;
        }
      }
      return false;
    }

    /** Whether the entry fits that an index has for a document that has none at its path. */
    boolean fitsNothing() {
      return relation == SAME && value.signAt(0) == Value.NOTHING;
    }

    private boolean fits(Value document, int at) {
      int kind = document.kindAt(at);
      switch (relation) {
        case SAME:
          return Value.order(document, at, value, 0) == 0;
        case HAS:
          return true;
        case WIDTH:
          return kind == KIND_ROW && document.widthAt(at) == value.numberAt(0);
        default:
          return (kind == KIND_NUMBER || kind == KIND_WORD) && kind == value.kindAt(0) && isBeyond(document.signAt(at));
      }
    }

    private boolean isBeyond(int sign) {
      return relation == LESS ? sign < value.signAt(0) : sign > value.signAt(0);
    }
  }

  /** The indexes, and the plans that are kept. */
  private static final class Indexes {
    private final int[] paths = new int[MOST_INDEXES];
    private final boolean[] isSparse = new boolean[MOST_INDEXES];
    private final int[] planShapes = new int[MOST_PLANS];
    private final int[] planIndexes = new int[MOST_PLANS];
    private final int[] planLooks = new int[MOST_PLANS];
    private final Places places = new Places();
    private int plans = 0;

    Indexes() {
      for (int i = 0; i < paths.length; i++) {
        paths[i] = NONE;
      }
    }

    boolean has(int index) {
      return index >= 0 && index < MOST_INDEXES && paths[index] != NONE;
    }

    int pathOf(int index) {
      return index >= 0 && index < MOST_INDEXES ? paths[index] : NONE;
    }

    boolean hasPath(int path) {
      for (int i = 0; i < paths.length; i++) {
        if (paths[i] == path) {
          return true;
        }
      }
      return false;
    }

    int lowestFree() {
      for (int i = 0; i < paths.length; i++) {
        if (paths[i] == NONE) {
          return i;
        }
      }
      return NONE;
    }

    void make(int index, int path, boolean sparse) {
      if (index >= 0 && index < MOST_INDEXES) {
        paths[index] = path;
        isSparse[index] = sparse;
      }
    }

    /** Takes an index away, and the plans that are kept with it; returns how many plans. */
    int abolish(int index) {
      if (index < 0 || index >= MOST_INDEXES) {
        return 0;
      }
      paths[index] = NONE;
      int before = plans;
      for (int plan = before - 1; plan >= 0; plan--) {
        if (indexOfPlan(plan) == index) {
          forgetPlan(plan);
        }
      }
      return before - plans;
    }

    int countEntries(Store store, int index) {
      int entries = 0;
      for (int number = 0; number < NUMBERS; number++) {
        if (store.has(number)) {
          entries += entriesFor(store.at(number), index);
        }
      }
      return entries;
    }

    private int entriesFor(Value document, int index) {
      places.gather(document, pathOf(index));
      int entries = 0;
      for (int i = 0; i < places.size(); i++) {
        if (isFirst(document, i)) {
          entries++;
        }
      }
      return entries == 0 && hasEntryForNone(index) ? 1 : entries;
    }

    /** Whether the value at one of the places is the same as none ahead of it. */
    private boolean isFirst(Value document, int place) {
      for (int i = 0; i < place; i++) {
        if (Value.order(document, places.at(i), document, places.at(place)) == 0) {
          return false;
        }
      }
      return true;
    }

    private boolean hasEntryForNone(int index) {
      return index >= 0 && index < MOST_INDEXES && !isSparse[index];
    }

    /** How many documents have an entry that fits a filter. */
    int countLooked(Store store, int index, Filter filter) {
      int many = 0;
      for (int number = 0; number < NUMBERS; number++) {
        if (store.has(number)) {
          Value document = store.at(number);
          places.gather(document, pathOf(index));
          boolean isLooked = places.size() > 0
              ? filter.fitsSome(document, places) : hasEntryForNone(index) && filter.fitsNothing();
          many += isLooked ? 1 : 0;
        }
      }
      return many;
    }

    int plansKept() {
      return plans;
    }

    /** The plan that is kept for a shape; NONE if there is none. */
    int planFor(int shape) {
      for (int i = 0; i < plans && i < MOST_PLANS; i++) {
        if (planShapes[i] == shape) {
          return i;
        }
      }
      return NONE;
    }

    int indexOfPlan(int plan) {
      return plan >= 0 && plan < MOST_PLANS ? planIndexes[plan] : NONE;
    }

    int looksOfPlan(int plan) {
      return plan >= 0 && plan < MOST_PLANS ? planLooks[plan] : 0;
    }

    void keepPlan(int shape, int index, int looks) {
      if (plans >= 0 && plans < MOST_PLANS) {
        planShapes[plans] = shape;
        planIndexes[plans] = index;
        planLooks[plans] = looks;
        plans++;
      }
    }

    /** The last plan comes in the place of the one that is forgotten: their order is of no matter. */
    void forgetPlan(int plan) {
      int last = plans - 1;
      if (plan < 0 || plan > last || last >= MOST_PLANS) {
        return;
      }
      planShapes[plan] = planShapes[last];
      planIndexes[plan] = planIndexes[last];
      planLooks[plan] = planLooks[last];
      plans = last;
    }
  }

  /** The filters, and what the latest query found, and how. */
  private static final class Query {
    private final Filter[] filters = new Filter[MOST_FILTERS];
    private final Filter none = new Filter();
    private final Places places = new Places();
    private final int[] numbers = new int[MOST_DOCUMENTS];
    private int size = 0;
    private int foundSize = 0;
    private int usedIndex = NONE;
    private int looked = 0;
    private int tried = 0;
    private boolean isDropped = false;

    Query() {
      for (int i = 0; i < filters.length; i++) {
        filters[i] = new Filter();
      }
    }

    int size() {
      return size;
    }

    boolean isFull() {
      return size >= filters.length;
    }

    void addFilter(int path, int relation, Value value) {
      if (!isFull()) {
        filterAt(size).become(path, relation, value);
        size++;
      }
    }

    private Filter filterAt(int place) {
      Filter filter = place >= 0 && place < filters.length ? filters[place] : none;
      return filter == null ? none : filter;
    }

    int takeAllFilters() {
      int had = size;
      size = 0;
      return had;
    }

    int foundSize() {
      return foundSize;
    }

    int foundAt(int place) {
      return place >= 0 && place < foundSize && place < numbers.length ? numbers[place] : NONE;
    }

    int latest(int what) {
      if (what == 0) {
        return usedIndex;
      }
      if (what == 1) {
        return looked;
      }
      return what == 2 ? tried : isDropped ? 1 : 0;
    }

    int countFitting(Store store) {
      int many = 0;
      for (int number = 0; number < NUMBERS; number++) {
        if (store.has(number) && fitsAll(store.at(number))) {
          many++;
        }
      }
      return many;
    }

    /** Finds, by the plan that is chosen, which documents fit all filters. */
    int search(Store store) {
      foundSize = 0;
      for (int number = 0; number < NUMBERS && foundSize < numbers.length; number++) {
        if (store.has(number) && fitsAll(store.at(number))) {
          numbers[foundSize] = number;
          foundSize++;
        }
      }
      return foundSize;
    }

    private boolean fitsAll(Value document) {
      for (int i = 0; i < size; i++) {
        Filter filter = filterAt(i);
        places.gather(document, filter.path);
        if (!filter.fitsSome(document, places)) {
          return false;
        }
      }
      return true;
    }

    /** A number for the paths and the relations of the filters, in order. */
    private int shape() {
      int shape = 0;
      for (int i = 0; i < size; i++) {
        shape = shape * (PATHS * (WIDTH + 1) + 1) + filterAt(i).shape();
      }
      return shape;
    }

    void choosePlan(Store store, Indexes indexes) {
      int shape = shape();
      int plan = indexes.planFor(shape);
      tried = 0;
      isDropped = false;
      if (plan != NONE) {
        usedIndex = indexes.indexOfPlan(plan);
        looked = usedIndex == NONE
            ? store.size() : indexes.countLooked(store, usedIndex, filterFor(usedIndex, indexes));
        if (looked <= 2 * indexes.looksOfPlan(plan) + 2) {
          return;
        }
        indexes.forgetPlan(plan);
        isDropped = true;
      }
      tryPlans(store, indexes);
      indexes.keepPlan(shape, usedIndex, looked);
    }

    /** Tries none last, so that it is taken only if it looks at fewer documents than each index. */
    private void tryPlans(Store store, Indexes indexes) {
      for (int index = 0; index < MOST_INDEXES; index++) {
        Filter filter = filterFor(index, indexes);
        if (filter != none) {
          tryPlan(index, indexes.countLooked(store, index, filter));
        }
      }
      tryPlan(NONE, store.size());
    }

    private void tryPlan(int index, int looks) {
      if (tried == 0 || looks < looked) {
        usedIndex = index;
        looked = looks;
      }
      tried++;
    }

    /** The first filter by which an index can look; none if there is no such filter or index. */
    private Filter filterFor(int index, Indexes indexes) {
      for (int i = 0; i < size && indexes.has(index); i++) {
        Filter filter = filterAt(i);
        if (filter.isFor(indexes.pathOf(index))) {
          return filter;
        }
      }
      return none;
    }
  }

  /** The groups by the latest group(). */
  private static final class Groups {
    private static final int MOST = MOST_DOCUMENTS * MOST_PARTS;

    private final long[] prints = new long[MOST];
    private final int[] times = new int[MOST];
    private final long[] sums = new long[MOST];

    /** The document and the place where the value of each group was met first: of use only while they are built. */
    private final int[] owners = new int[MOST];
    private final int[] ownPlaces = new int[MOST];
    private final Places places = new Places();
    private int count = 0;

    int size() {
      return count;
    }

    long tell(int place, int what) {
      if (place < 0 || place >= count || place >= MOST) {
        return 0;
      }
      if (what == 0) {
        return prints[place];
      }
      return what == 1 ? times[place] : sums[place];
    }

    int build(Store store, Query query, int path, int sumPath) {
      count = 0;
      for (int i = 0; i < query.foundSize(); i++) {
        int number = query.foundAt(i);
        if (store.has(number)) {
          takeIn(store, number, path, sumOf(store.at(number), sumPath));
        }
      }
      for (int group = 0; group < count && group < MOST; group++) {
        prints[group] = store.at(owners[group]).printAt(ownPlaces[group]);
      }
      return count;
    }

    private long sumOf(Value document, int path) {
      places.gather(document, path);
      long sum = 0;
      for (int i = 0; i < places.size(); i++) {
        int at = places.at(i);
        if (document.kindAt(at) == KIND_NUMBER) {
          sum += document.numberAt(at);
        }
      }
      return sum;
    }

    private void takeIn(Store store, int number, int path, long sum) {
      Value document = store.at(number);
      places.gather(document, path);
      for (int i = 0; i < places.size(); i++) {
        int at = places.at(i);
        if (document.kindAt(at) != KIND_ROW) {
          int group = groupFor(store, number, at);
          if (group >= 0 && group < MOST) {
            times[group]++;
            sums[group] += sum;
          }
        }
      }
    }

    /** The group of the value at a place of a document, made if it is missing. */
    private int groupFor(Store store, int number, int at) {
      Value document = store.at(number);
      int low = 0;
      int high = count;
      for (int i = 0; i < MOST && low < high; i++) {
        int middle = (low + high) / 2;
        int order = orderTo(store, middle, document, at);
        if (order == 0) {
          return middle;
        }
        if (order < 0) {
          low = middle + 1;
        } else {
          high = middle;
        }
      }
      return makeGroup(low, number, at);
    }

    private int orderTo(Store store, int group, Value document, int at) {
      if (group < 0 || group >= MOST) {
        return 0;
      }
      return Value.order(store.at(owners[group]), ownPlaces[group], document, at);
    }

    private int makeGroup(int group, int number, int at) {
      if (group < 0 || group > count || count >= MOST) {
        return NONE;
      }
      for (int i = count; i > group; i--) {
        times[i] = times[i - 1];
        sums[i] = sums[i - 1];
        owners[i] = owners[i - 1];
        ownPlaces[i] = ownPlaces[i - 1];
      }
      times[group] = 0;
      sums[group] = 0;
      owners[group] = number;
      ownPlaces[group] = at;
      count++;
      return group;
    }
  }
}
