/**
 * The sentences of ../shared/DOC.md on finding, changes and time that name a boundary case, and on exceptions,
 * each with a test of its own. With the document at hand it is also checked that no clause is left out.
 */
public final class FindingTest extends Kit {

  // ---- Finding

  private static void dueEntries(String what, Shardmoor x, int index, int entries) {
    due(what + ": entries", x.entries(index), entries);
    due(what + ": entries anew", x.entriesAnew(index), entries);
  }

  static void indexes() {
    section("Finding");
    says("An index is of a path; it has entries for each document that lies in a shard (orphans and copies not"
        + " counted)");
    Shardmoor x = with("{0:1,1:1}", "{0:2,1:1}", "{0:400,1:1}");
    x.index(1, true);
    dueEntries("of documents that there were", x, 0, 3);
    insert(x, 9, "{1:1}");
    dueEntries("told", x, 0, 4);
    update(x, 9, 1, UNSET, "");
    dueEntries("changed", x, 0, 3);
    update(x, 9, 1, SET, "1");
    x.move(0, 1);
    x.copy(2);
    dueEntries("copies", x, 0, 4);
    x.copy(20);
    x.handOver();
    dueEntries("orphans", x, 0, 4);
    x.key(1, true);
    dueEntries("another key", x, 0, 4);
    x.remove(0, 0);
    dueEntries("removed", x, 0, 3);
    x.expire(1);
    x.tick(1);
    dueEntries("expired", x, 0, 0);
    says("one for each of the different values that it has at the path, and, unless it is sparse, one with nothing, if"
        + " it has none");
    String[] documents = {"{}", "{1:_}", "{1:1}", "{1:[]}", "{1:[_]}", "{1:[1,1]}", "{1:[1,[1],[1]]}", "{1:{}}", "{1:{1:1}}",
        "{1:[{1:1},{1:1},{1:2}]}", "{1:[{1:[1,2]},{1:1}]}", "{2:1}"};
    int[] ofField = {0, 1, 1, 1, 2, 2, 3, 1, 1, 3, 3, 0};
    int[] ofTwo = {0, 0, 0, 0, 0, 0, 0, 0, 1, 2, 3, 0};
    for (int i = 0; i < documents.length; i++) {
      Shardmoor y = with(documents[i]);
      due("sparse", y.index(1, true), 0);
      due("sparse, of two fields", y.index(17, true), 1);
      dueEntries(documents[i], y, 0, ofField[i]);
      dueEntries(documents[i], y, 1, ofTwo[i]);
      y.dropIndex(0);
      y.dropIndex(1);
      y.index(1, false);
      y.index(17, false);
      dueEntries(documents[i] + " not sparse", y, 0, Math.max(1, ofField[i]));
      dueEntries(documents[i] + " not sparse", y, 1, Math.max(1, ofTwo[i]));
    }
    says("There are at most 3 indexes.");
    x = new Shardmoor();
    for (int i = 0; i < 3; i++) {
      due("index", x.index(i, true), i);
    }
    refuses("a fourth", STATE, FULL, y -> y.index(2, true));
    x.dropIndex(1);
    due("in place of one", x.index(9, true), 1);
    throwsBy("a fourth", x, STATE, y -> y.index(10, true));
  }

  static void relations() {
    says("A filter is a path, a relation, and a value: 0 it has the same at the path");
    String[] kinds = {"{}", "{1:_}", "{1:0}", "{1:w0}", "{1:[]}", "{1:[0]}", "{1:{}}", "{1:[[0],0,0]}", "{2:0}", "{1:{1:0}}"};
    dueText("nothing", fitting(1, 0, "_", kinds), "1");
    dueText("0", fitting(1, 0, "0", kinds), "2 5 7");
    dueText("w0", fitting(1, 0, "w0", kinds), "3");
    dueText("[]", fitting(1, 0, "[]", kinds), "4");
    dueText("[0]", fitting(1, 0, "[0]", kinds), "5 7");
    dueText("{}", fitting(1, 0, "{}", kinds), "6");
    dueText("[[0],0,0]", fitting(1, 0, "[[0],0,0]", kinds), "7");
    dueText("0 of two fields", fitting(17, 0, "0", kinds), "9");
    String[] sizes = {"{1:-999}", "{1:-998}", "{1:4}", "{1:5}", "{1:6}", "{1:998}", "{1:999}", "{1:w0}", "{1:w4}", "{1:w5}",
        "{1:w6}", "{1:w99}", "{1:_}", "{1:[]}", "{1:{}}", "{}", "{1:[6,w4]}", "{1:[[4],{1:4}]}", "{1:[[]]}"};
    says("1 it has a number or word at the path that is less, and of the kind of the value");
    dueText("less than 5", fitting(1, 1, "5", sizes), "0 1 2");
    dueText("less than -999", fitting(1, 1, "-999", sizes), "");
    dueText("less than -998", fitting(1, 1, "-998", sizes), "0");
    dueText("less than 999", fitting(1, 1, "999", sizes), "0 1 2 3 4 5 16");
    dueText("less than w5", fitting(1, 1, "w5", sizes), "7 8 16");
    dueText("less than w0", fitting(1, 1, "w0", sizes), "");
    dueText("less than w99", fitting(1, 1, "w99", sizes), "7 8 9 10 16");
    says("2 likewise greater");
    dueText("greater than 5", fitting(1, 2, "5", sizes), "4 5 6 16");
    dueText("greater than 999", fitting(1, 2, "999", sizes), "");
    dueText("greater than 998", fitting(1, 2, "998", sizes), "6");
    dueText("greater than -999", fitting(1, 2, "-999", sizes), "1 2 3 4 5 6 16");
    dueText("greater than w5", fitting(1, 2, "w5", sizes), "10 11");
    dueText("greater than w99", fitting(1, 2, "w99", sizes), "");
    dueText("greater than w0", fitting(1, 2, "w0", sizes), "8 9 10 11 16");
    for (String other : new String[] {"_", "[]", "[1]", "{}", "{1:1}"}) {
      dueText("less than " + other, fitting(1, 1, other, sizes), "");
      dueText("greater than " + other, fitting(1, 2, other, sizes), "");
    }
    says("3 it has something there (the value is of no matter)");
    for (String value : new String[] {"_", "0", "w0", "[]", "{}"}) {
      dueText("something", fitting(1, 3, value, kinds), "1 2 3 4 5 6 7 9");
      dueText("something of two fields", fitting(17, 3, value, kinds), "9");
    }
    says("4 the value is a number, and it has at the path a row with so many parts");
    String[] rows = {"{}", "{1:0}", "{1:[]}", "{1:[0]}", "{1:[0,0]}", "{1:[[],1]}", "{1:{}}", "{1:[[1,2,3]]}", "{1:{1:[]}}",
        "{1:" + row(1, 22, "") + "}"};
    dueText("0 parts", fitting(1, 4, "0", rows), "2 5");
    dueText("1 part", fitting(1, 4, "1", rows), "3 7");
    dueText("2 parts", fitting(1, 4, "2", rows), "4 5");
    dueText("3 parts", fitting(1, 4, "3", rows), "7");
    dueText("22 parts", fitting(1, 4, "22", rows), "9");
    dueText("23 parts", fitting(1, 4, "23", rows), "");
    dueText("-1 parts", fitting(1, 4, "-1", rows), "");
    dueText("999 parts", fitting(1, 4, "999", rows), "");
    dueText("-999 parts", fitting(1, 4, "-999", rows), "");
    dueText("0 parts of two fields", fitting(17, 4, "0", rows), "8");
    for (String value : new String[] {"_", "w0", "[]", "{}"}) {
      refuses("so many parts by " + value, STATE, () -> {
        Shardmoor x = with("{1:[]}");
        tell(x, value);
        return x;
      }, x -> x.filter(1, 4));
    }
  }

  static void filters() {
    says("A query has at most 3 filters, all of which have to fit.");
    Shardmoor x = with("{1:1,2:1,3:1}", "{1:1,2:1}", "{1:1,3:1}", "{2:1,3:1}", "{1:1}", "{}", "{1:[1,5],2:1,3:1}");
    dueText("no filter", foundBy(x), "0 1 2 3 4 5 6");
    filter(x, 1, 0, "1");
    dueText("one", foundBy(x), "0 1 2 4 6");
    filter(x, 2, 3, "_");
    dueText("two", foundBy(x), "0 1 6");
    filter(x, 3, 2, "0");
    dueText("three", foundBy(x), "0 6");
    x.nothing();
    throwsBy("a fourth", x, STATE, y -> y.filter(1, 3));
    dueText("three still", foundBy(x), "0 6");
    x.clear();
    filter(x, 1, 1, "2");
    filter(x, 1, 2, "4");
    dueText("two by several values", foundBy(x), "6");
    refuses("a fourth", STATE, () -> {
      Shardmoor y = full();
      y.drop();
      y.nothing();
      return y;
    }, y -> y.filter(1, 3));
  }

  static void plans() {
    says("A plan is an index with the path of one of the filters with a relation 0, 1 or 2, the first such filter"
        + " being the one by which it looks");
    for (int relation = 0; relation <= 4; relation++) {
      Shardmoor x = with("{1:1}", "{1:1}", "{2:1}", "{2:2}");
      x.index(1, true);
      x.index(3, true);
      filter(x, 1, relation, relation == 1 ? "2" : relation == 2 ? "0" : "1");
      x.find(0);
      duePlan("relation " + relation, x, relation <= 2 ? 0 : -1, relation <= 2 ? 2 : 4, relation <= 2 ? 2 : 1, 0, 1);
    }
    Shardmoor x = with("{1:1}", "{1:5}", "{1:5}", "{1:9}", "{1:9}", "{1:9}", "{}", "{}");
    x.index(1, true);
    filter(x, 1, 3, "1");
    filter(x, 1, 0, "1");
    filter(x, 1, 2, "5");
    x.find(0);
    duePlan("the first with 0, 1 or 2", x, 0, 1, 2, 0, 1);
    x.clear();
    filter(x, 1, 4, "1");
    filter(x, 1, 2, "5");
    filter(x, 1, 0, "1");
    x.find(0);
    duePlan("the first with 0, 1 or 2", x, 0, 3, 2, 0, 2);
    x.clear();
    filter(x, 1, 1, "9");
    filter(x, 1, 1, "5");
    x.find(0);
    duePlan("the first with 0, 1 or 2", x, 0, 3, 2, 0, 3);
    says("or none");
    x.clear();
    x.find(0);
    duePlan("no filter", x, -1, 8, 1, 0, 4);
    filter(x, 2, 0, "1");
    x.find(0);
    duePlan("a path without index", x, -1, 8, 1, 0, 5);
    says("By an index the documents are looked at that have an entry that fits the filter");
    String[] documents = {"{}", "{1:_}", "{1:1}", "{1:[1,1,[1]]}", "{1:w1}", "{1:[]}", "{1:{}}", "{1:[0,2]}", "{2:1}"};
    dueLooks(documents, "1", new int[] {2, 1, 1});
    dueLooks(documents, "_", new int[] {1, 0, 0});
    dueLooks(documents, "[]", new int[] {1, 0, 0});
    dueLooks(documents, "{}", new int[] {1, 0, 0});
    dueLooks(documents, "[0,2]", new int[] {1, 0, 0});
    dueLooks(documents, "w1", new int[] {1, 0, 0});
    dueLooks(documents, "2", new int[] {1, 3, 0});
    dueLooks(documents, "0", new int[] {1, 0, 3});
    says("by none all");
    Shardmoor many = sixty();
    many.find(0);
    duePlan("60", many, -1, 60, 1, 0, 1);
    new Shardmoor().find(0);
    Shardmoor empty = new Shardmoor();
    empty.find(1);
    duePlan("no documents", empty, -1, 0, 1, 0, 1);
  }

  /** At how many documents a sparse index of the path 1 looks by the relations 0, 1 and 2. */
  private static void dueLooks(String[] documents, String value, int[] looks) {
    for (int relation = 0; relation <= 2; relation++) {
      Shardmoor x = with(documents);
      x.index(1, true);
      filter(x, 1, relation, value);
      due("found by " + relation + " with " + value, x.find(0), looks[relation]);
      duePlan("by " + relation + " with " + value, x, 0, looks[relation], 2, 0, 1);
      x = with(documents);
      x.index(1, false);
      filter(x, 1, relation, value);
      x.find(0);
      int withNone = value.equals("_") && relation == 0 ? 2 : 0;
      duePlan("not sparse, by " + relation + " with " + value, x, 0, looks[relation] + withNone, 2, 0, 1);
    }
  }

  static void keptPlans() {
    says("To find: if a plan is kept for the paths and relations of the filters, in order, and it is still there, it"
        + " is used");
    Shardmoor x = with("{1:1,2:1}", "{1:2,2:1}", "{1:3,2:1}");
    x.index(1, true);
    dueFind(x, "the first time", 2, 1, "1 0 1");
    dueFind(x, "with another value", 0, 1, "1 0 2");
    dueFind(x, "with another relation", 2, 2, "1 2 1");
    dueFind(x, "with another path", 1, 3, "2 0 1");
    dueFind(x, "with a path more", 2, 4, "1 0 1", "2 0 1");
    dueFind(x, "the same again", 0, 4, "1 0 3", "2 0 9");
    dueFind(x, "in another order", 2, 5, "2 0 1", "1 0 1");
    dueFind(x, "with the path twice", 2, 6, "1 0 1", "1 0 1");
    dueFind(x, "three", 2, 7, "1 0 1", "1 0 1", "1 0 1");
    dueFind(x, "no filter", 1, 8);
    dueFind(x, "no filter again", 0, 8);
    dueFind(x, "71 with 4", 1, 9, "71 4 1");
    dueFind(x, "0 with 0", 1, 10, "0 0 1");
    dueFind(x, "0 with 0 twice", 1, 11, "0 0 1", "0 0 1");
    dueFind(x, "71 with 4 three times", 1, 12, "71 4 1", "71 4 1", "71 4 1");
    dueFind(x, "0 with 0 again", 0, 12, "0 0 5");
    x.index(2, true);
    dueFind(x, "kept when there is a new index", 0, 12, "2 0 1");
    due("the plan that is kept", x.plan(0), -1);
    due("plans with the index that is dropped", x.dropIndex(0), 6);
    dueFind(x, "not there any more", 1, 7, "1 0 1");
    due("by none", x.plan(0), -1);
    x.index(1, true);
    dueFind(x, "kept by none", 0, 7, "1 0 1");
    due("by none", x.plan(0), -1);
    dueFind(x, "tried anew", 2, 8, "1 2 1");
    due("by the index", x.plan(0), 0);
    differentQueries();
  }

  /** Each other row of paths and relations has a plan of its own: some at a time, as an object has 512 calls only. */
  private static void differentQueries() {
    java.util.Random random = new java.util.Random(7);
    int[] paths = {0, 1, 2, 70, 71};
    for (int run = 0; run < 60; run++) {
      java.util.Set<String> known = new java.util.HashSet<>();
      Shardmoor x = new Shardmoor();
      for (int i = 0; i < 40; i++) {
        StringBuilder query = new StringBuilder();
        for (int j = random.nextInt(4); j > 0; j--) {
          int path = run < 30 ? random.nextInt(72) : paths[random.nextInt(5)];
          int relation = random.nextInt(5);
          query.append(path).append(' ').append(relation).append(' ');
          filter(x, path, relation, "1");
        }
        boolean isNew = known.add(query.toString());
        x.find(0);
        due("tried for " + query, x.plan(2), isNew ? 1 : 0);
        due("kept", x.plan(4), known.size());
        x.clear();
      }
    }
    differentSeconds();
    for (int path = 0; path < 71; path++) {
      Shardmoor x = new Shardmoor();
      int kept = 1;
      dueFind(x, "no filter", 1, kept);
      for (int relation = 0; relation <= 9; relation++) {
        kept++;
        dueFind(x, "each path and relation", 1, kept, (path + relation / 5) + " " + relation % 5 + " 1");
        dueFind(x, "again", 0, kept, (path + relation / 5) + " " + relation % 5 + " 1");
      }
    }
  }

  /**
   * Queries of two filters, their first ones next to one another: of the 360 pairs of a path and a relation the second ones
   * lie each possible way apart, so that no two may be taken for the same by a number that is made of both.
   */
  private static void differentSeconds() {
    Shardmoor x = new Shardmoor();
    int kept = 0;
    for (int second = 0; second < 19; second++) {
      kept++;
      dueFind(x, "two filters", 1, kept, "0 1 1", second / 5 + " " + second % 5 + " 1");
    }
    for (int step = 0; step <= 19; step++) {
      int second = Math.min(19 * step, 359);
      kept++;
      dueFind(x, "two filters", 1, kept, "0 0 1", second / 5 + " " + second % 5 + " 1");
    }
  }

  /** Filters as texts of the path, the relation and the value; how many plans are tried, and kept then. */
  private static void dueFind(Shardmoor x, String what, int tried, int kept, String... filters) {
    x.clear();
    for (String told : filters) {
      String[] parts = told.split(" ");
      filter(x, Integer.parseInt(parts[0]), Integer.parseInt(parts[1]), parts[2]);
    }
    x.find(0);
    due(what + ": tried", x.plan(2), tried);
    due(what + ": kept", x.plan(4), kept);
  }

  static void droppedPlans() {
    says("if it looks at more documents than twice as many as when it was kept, and 2, together, it is dropped");
    for (int kept : new int[] {0, 1, 2, 5, 19}) {
      Shardmoor x = new Shardmoor();
      for (int i = 0; i < kept; i++) {
        insert(x, i, "{}");
      }
      x.find(0);
      duePlan("kept at " + kept, x, -1, kept, 1, 0, 1);
      for (int i = kept; i < 2 * kept + 2; i++) {
        insert(x, i, "{}");
      }
      x.find(0);
      duePlan("kept at " + kept + ", twice as many and 2", x, -1, 2 * kept + 2, 0, 0, 1);
      insert(x, 2 * kept + 2, "{}");
      due("found", x.find(0), 2 * kept + 3);
      duePlan("kept at " + kept + ", one more", x, -1, 2 * kept + 3, 1, 1, 1);
      x.find(0);
      duePlan("once more", x, -1, 2 * kept + 3, 0, 0, 1);
      x.remove(0, 0);
      x.find(0);
      duePlan("fewer", x, -1, 2 * kept + 2, 0, 0, 1);
    }
    Shardmoor x = with("{1:1,2:1}", "{1:2,2:1}", "{1:2,2:1}", "{1:2,2:1}", "{1:2,2:1}", "{1:3,2:2}", "{1:3}", "{1:3}", "{1:3}",
        "{1:3}");
    x.index(1, true);
    x.index(2, true);
    dueFind(x, "tried", 3, 1, "1 0 1", "2 0 1");
    duePlan("by the first", x, 0, 1);
    dueFind(x, "twice 1 and 2", 0, 1, "1 0 2", "2 0 2");
    duePlan("by the first", x, 0, 4, 0, 0);
    dueFind(x, "one more", 3, 1, "1 0 3", "2 0 2");
    duePlan("by the second", x, 1, 1, 3, 1);
    dueFind(x, "the other is kept now", 0, 1, "1 0 1", "2 0 3");
    duePlan("by the second", x, 1, 0, 0, 0);
    dueFind(x, "another query has its own", 2, 2, "1 0 3");
    due("found all the same", x.find(0), 5);
    severalPlans();
  }

  /** Of several plans one is dropped: the others know still at how many documents they looked. */
  private static void severalPlans() {
    Shardmoor x = with("{}");
    dueFind(x, "kept at 1", 1, 1);
    for (int i = 1; i < 5; i++) {
      insert(x, i, "{}");
    }
    dueFind(x, "kept at 5", 1, 2, "7 3 _");
    insert(x, 5, "{}");
    dueFind(x, "kept at 6", 1, 3, "6 3 _");
    dueFind(x, "6 is more than 4", 1, 3);
    for (int i = 6; i < 12; i++) {
      insert(x, i, "{}");
    }
    dueFind(x, "12 is twice 5 and 2", 0, 3, "7 3 _");
    insert(x, 12, "{}");
    dueFind(x, "13 is more", 1, 3, "7 3 _");
    insert(x, 13, "{}");
    dueFind(x, "14 is twice 6 and 2", 0, 3, "6 3 _");
    dueFind(x, "14 is twice 6 and 2", 0, 3);
    insert(x, 14, "{}");
    dueFind(x, "15 is more", 1, 3);
    dueFind(x, "15 is more", 1, 3, "6 3 _");
    dueFind(x, "15 is not more than 28", 0, 3, "7 3 _");
    Shardmoor y = with("{1:1}", "{1:1}", "{2:1}");
    y.index(1, true);
    dueFind(y, "by the index, kept at 2", 2, 1, "1 0 1");
    dueFind(y, "by none, kept at 3", 1, 2, "2 0 1");
    y.dropIndex(0);
    for (int i = 3; i < 8; i++) {
      insert(y, i, "{}");
    }
    dueFind(y, "8 is twice 3 and 2", 0, 1, "2 0 1");
    insert(y, 8, "{}");
    dueFind(y, "9 is more", 1, 1, "2 0 1");
  }

  static void triedPlans() {
    says("If none is kept then, all plans are tried, and the one that looks at the fewest documents is kept (of"
        + " several none last, otherwise the lowest index), and used.");
    Shardmoor x = with("{1:1,2:1,3:1}", "{1:1,2:1,3:2}", "{1:1,2:2,3:1}");
    x.index(1, true);
    x.index(2, true);
    x.index(3, true);
    dueFind(x, "no index is of that path", 1, 1, "4 0 1");
    dueFind(x, "one is", 2, 2, "2 0 2");
    duePlan("the second", x, 1, 1);
    dueFind(x, "two are", 3, 3, "1 0 1", "2 0 1");
    duePlan("the second looks at 2 of 3", x, 1, 2);
    dueFind(x, "all are", 4, 4, "3 0 1", "2 0 1", "1 0 1");
    duePlan("the second and the third look at 2", x, 1, 2);
    dueFind(x, "as many as all", 2, 5, "1 0 1");
    duePlan("none last", x, 0, 3);
    dueFind(x, "more than one", 3, 6, "3 0 1", "1 1 2");
    duePlan("the third looks at 2", x, 2, 2);
    dueFind(x, "each looks at all", 3, 7, "2 1 5", "1 1 5");
    duePlan("the lowest index", x, 0, 3);
    dueFind(x, "none looks at any", 4, 8, "3 2 5", "2 2 5", "1 2 5");
    duePlan("the lowest index", x, 0, 0);
    x.dropIndex(0);
    x.index(4, false);
    dueFind(x, "a new index in a lower place", 3, 3 + 3, "4 0 _", "2 2 5");
    duePlan("the one that looks at none", x, 1, 0);
    Shardmoor empty = new Shardmoor();
    empty.index(1, true);
    dueFind(empty, "no documents", 2, 1, "1 0 1");
    duePlan("none last", empty, 0, 0);
    says("The documents that are found are told by rising numbers.");
    Shardmoor y = new Shardmoor();
    insert(y, 99, "{0:0,1:9}");
    insert(y, 0, "{0:999,1:5}");
    insert(y, 50, "{0:500,1:1}");
    insert(y, 7, "{0:1,1:8}");
    dueText("by none", foundBy(y), "0 7 50 99");
    y.index(1, true);
    filter(y, 1, 2, "4");
    dueText("by an index", foundBy(y), "0 7 99");
    due("by the index", y.plan(0), 0);
  }

  static void groups() {
    says("To group what the latest query found (of these those that there are, by their numbers, as they are now) by a"
        + " path, with another one");
    Shardmoor x = with("{1:1,2:10}", "{1:1,2:20}", "{1:2,2:30}");
    due("no query yet", x.group(1, 2), 0);
    filter(x, 1, 0, "1");
    x.find(0);
    due("what was found", x.group(1, 2), 1);
    dueGroup(x, 0, "1", 2, 30);
    x.clear();
    due("of the latest query", x.group(1, 2), 1);
    update(x, 0, 1, SET, "5");
    update(x, 0, 2, SET, "7");
    insert(x, 3, "{1:1,2:9}");
    due("as they are now", x.group(1, 2), 2);
    dueGroup(x, 0, "1", 1, 20);
    dueGroup(x, 1, "5", 1, 7);
    x.remove(0, 1);
    due("those that there are", x.group(1, 2), 1);
    dueGroup(x, 0, "5", 1, 7);
    insert(x, 1, "{1:8,2:6}");
    due("by their numbers", x.group(1, 2), 2);
    dueGroup(x, 1, "8", 1, 6);
    x.key(1, true);
    due("by another key", x.group(1, 2), 2);
    x.find(0);
    due("the latest query", x.group(1, 2), 4);
    x.expire(1);
    x.tick(10);
    due("none are there", x.group(1, 2), 0);
    says("for each of the different values that they have at the first path, rows left out, in order, a group");
    x = with("{1:[1,[1],1,w1,_,{},[[2]]]}", "{1:[]}", "{1:[[]]}", "{}", "{1:1}", "{1:{0:1}}", "{2:5}");
    x.find(0);
    due("groups", x.group(1, 2), 5);
    String[] values = {"_", "1", "w1", "{}", "{0:1}"};
    for (int i = 0; i < values.length; i++) {
      dueGroup(x, i, values[i], values[i].equals("1") ? 3 : 1, 0);
    }
    x = with("{1:[1,2]}", "{1:[2,1]}", "{1:[3]}");
    filter(x, 1, 0, "3");
    x.find(0);
    due("one group", x.group(1, 1), 1);
    due("none", x.group(2, 1), 0);
    says("how many times it is had, and for each time the sum of all numbers that the document has at the other path,"
        + " together");
    x = with("{1:[7,7,8],2:[1,2,[4],w9,{0:8}]}", "{1:7,2:-5}", "{1:8,2:[999,999,999]}", "{1:8}", "{1:9,2:w5}",
        "{1:6,2:{3:5}}", "{1:5,2:[{3:5},{3:[5,-7]},{4:1}]}");
    x.find(0);
    due("groups", x.group(1, 2), 5);
    dueGroup(x, 0, "5", 1, 0);
    dueGroup(x, 1, "6", 1, 0);
    dueGroup(x, 2, "7", 3, 3 + 3 - 5);
    dueGroup(x, 3, "8", 3, 3 + 2997);
    dueGroup(x, 4, "9", 1, 0);
    due("with two fields", x.group(1, 27), 5);
    dueGroup(x, 0, "5", 1, 3);
    dueGroup(x, 1, "6", 1, 5);
    due("with the same", x.group(1, 1), 5);
    dueGroup(x, 2, "7", 3, 22 + 22 + 7);
    Shardmoor large = new Shardmoor();
    for (int i = 0; i < 9; i++) {
      insert(large, i, "{1:[5,5,5,5,5,5,5,5,5,5,5],2:[999,999,999,999,999,999,999,999,999,999]}");
    }
    large.find(0);
    due("one group", large.group(1, 2), 1);
    dueGroup(large, 0, "5", 99, 99L * 10 * 999);
  }

  // ---- Changes, time

  static void changes() {
    saysNoMore("Changes, time");
    says("Each document that is told, removed, or becomes another one by a call makes an entry, with a time, 1, 2 and"
        + " so on, in the shard where it lies then (removed: lay).");
    Shardmoor x = new Shardmoor();
    throwsBy("no entry yet", x, BOUNDS, y -> y.change(1, 0));
    due("no entry yet", x.next(0), -1);
    insert(x, 99, "{0:400}");
    dueChange("told", x, 1, 0, 99, 1);
    update(x, 99, 1, SET, "1");
    dueChange("changed", x, 2, 1, 99, 1);
    update(x, 99, 1, SET, "1");
    update(x, 99, 2, UNSET, "");
    update(x, 99, 1, ADD, "0");
    update(x, 99, 3, PULL, "1");
    due("not another one", x.next(2), -1);
    x.remove(1, 99);
    dueChange("removed", x, 3, 2, 99, 1);
    insert(x, 0, "{0:999}");
    dueChange("told", x, 4, 0, 0, 2);
    throwsBy("by a call that throws", x, STATE, y -> y.insert(0, 5));
    throwsBy("by a call that throws", x, BOUNDS, y -> y.remove(0, 99));
    due("none", x.next(4), -1);
    throwsBy("none", x, BOUNDS, y -> y.change(5, 0));
    throwsBy("none", x, BOUNDS, y -> y.change(0, 0));
    says("An update by which it goes to another shard makes one entry.");
    update(x, 0, 0, SET, "333");
    dueChange("in the shard where it lies then", x, 5, 1, 0, 0);
    due("one", x.next(5), -1);
    says("A stream tells entries of all shards by their times; a token is a time; it can be resumed behind any token");
    for (int token : new int[] {FAR[0], -5, -1, 0}) {
      due("behind " + token, x.next(token), 1);
    }
    for (int token = 1; token < 5; token++) {
      due("behind " + token, x.next(token), token + 1);
    }
    for (int token : new int[] {5, 6, 500, FAR[1] - 1, FAR[1]}) {
      due("behind " + token, x.next(token), -1);
    }
    says("What moves makes no entries.");
    x.move(0, 1);
    x.copy(1);
    x.giveUp();
    x.move(0, 2);
    x.copy(20);
    x.handOver();
    x.clean(0);
    x.split(0, 50);
    x.key(0, true);
    due("none", x.next(5), -1);
    dueChange("as it was", x, 5, 1, 0, 0);
  }

  static void time() {
    says("now is 0 at first.");
    due("now", new Shardmoor().now(), 0);
    says("With an expiring field, at each tick all documents go whose number there is now or less, by rising numbers,"
        + " each an entry.");
    Shardmoor x = new Shardmoor();
    insert(x, 9, "{1:2}");
    insert(x, 3, "{1:3}");
    insert(x, 5, "{1:2,0:999}");
    insert(x, 1, "{1:4}");
    insert(x, 4, "{2:1}");
    insert(x, 6, "{1:w1}");
    insert(x, 7, "{1:[1]}");
    insert(x, 8, "{1:_}");
    insert(x, 2, "{1:{1:1}}");
    due("without an expiring field", x.tick(1), 0);
    x.expire(1);
    due("none without a tick", x.documents(), 9);
    due("now 2", x.tick(1), 2);
    dueChange("the lowest number", x, 10, 2, 5, 2);
    dueChange("the next", x, 11, 2, 9, 0);
    due("no more", x.next(11), -1);
    due("now 4", x.tick(2), 2);
    dueChange("by the tick 3", x, 12, 2, 3, 0);
    dueChange("by the tick 4", x, 13, 2, 1, 0);
    due("others stay", x.tick(20), 0);
    due("documents", x.documents(), 5);
    update(x, 4, 1, SET, "24");
    due("less than now", x.tick(1), 1);
    update(x, 6, 1, SET, "27");
    due("26", x.tick(1), 0);
    due("27", x.tick(1), 1);
    update(x, 7, 1, SET, "28");
    x.expire(2);
    due("another field", x.tick(1), 0);
    x.expire(-1);
    due("no field", x.tick(1), 0);
    x.expire(1);
    due("28 is less than 30", x.tick(1), 1);
    x = with("{0:0}", "{0:1}", "{0:-999}", "{0:20}", "{0:21}");
    x.expire(0);
    due("now 20 at last", x.tick(20), 4);
    dueChange("by the tick 1, the lowest number", x, 6, 2, 0, 0);
    dueChange("by the tick 1", x, 7, 2, 1, 0);
    dueChange("by the tick 1", x, 8, 2, 2, 0);
    dueChange("by the tick 20", x, 9, 2, 3, 0);
    due("now 21", x.tick(1), 1);
  }

  static void exceptions() {
    says("A call that throws an exception changes nothing.");
    for (Maker state : ALL) {
      refuses("number", ARGUMENT, state, x -> x.number(1000));
      refuses("update of none", BOUNDS, state, x -> x.update(0, 70, 0, 0) ? 1 : 0);
      refuses("remove of none", BOUNDS, state, x -> x.remove(0, 70));
      refuses("a rule", ARGUMENT, state, x -> x.rule(8, 0));
      refuses("find", ARGUMENT, state, x -> x.find(2));
      refuses("group", ARGUMENT, state, x -> x.group(0, 72));
      refuses("split", ARGUMENT, state, x -> x.split(0, 0));
      refuses("move", ARGUMENT, state, x -> x.move(0, 3));
      refuses("copy", ARGUMENT, state, x -> x.copy(21));
      refuses("key", ARGUMENT, state, x -> x.key(8, true));
      refuses("expire", ARGUMENT, state, x -> x.expire(8));
      refuses("tick", ARGUMENT, state, x -> x.tick(21));
    }
    says("If several exceptions apply, the one that is named first in the throws clause is thrown.");
    for (Maker state : new Maker[] {Kit::fullPile, FULL}) {
      refuses("out of range, and full", ARGUMENT, state, x -> x.number(1000));
      refuses("out of range, and full", ARGUMENT, state, x -> x.word(100));
    }
    refuses("no field, and not two", ARGUMENT, FRESH, x -> x.give(8));
    refuses("no router, and no object", ARGUMENT, FRESH, x -> x.insert(2, 1));
    refuses("no number, and no object", ARGUMENT, FRESH, x -> x.insert(0, 100));
    refuses("no document, nor router", BOUNDS, FRESH, x -> x.update(2, 0, 72, 6) ? 1 : 0);
    refuses("no router, and an empty pile", ARGUMENT, () -> with("{}"), x -> x.update(2, 0, 0, 0) ? 1 : 0);
    refuses("no path, and an empty pile", ARGUMENT, () -> with("{}"), x -> x.update(0, 0, 72, 0) ? 1 : 0);
    refuses("no operator, and an empty pile", ARGUMENT, () -> with("{}"), x -> x.update(0, 0, 0, 6) ? 1 : 0);
    refuses("no document, and an empty pile", BOUNDS, FRESH, x -> x.update(0, 0, 0, 0) ? 1 : 0);
    refuses("no document, nor router", BOUNDS, FRESH, x -> x.remove(2, 0));
    refuses("no kind, and not kept", ARGUMENT, () -> with("{}"), x -> x.rule(0, 5));
    refuses("no path, and 3 indexes", ARGUMENT, FULL, x -> x.index(72, true));
    refuses("no path, and an empty pile", ARGUMENT, FRESH, x -> x.filter(72, 0));
    refuses("no relation, and 3 filters", ARGUMENT, FULL, x -> x.filter(0, 5));
    refuses("no group, and no such thing", BOUNDS, FRESH, x -> x.grouped(0, 3));
    refuses("no chunk, and no key", BOUNDS, FULL, x -> x.split(12, -1));
    refuses("no key, and 12 chunks", ARGUMENT, FULL, x -> x.split(11, 1000));
    refuses("no key, and it moves", ARGUMENT, RICH, x -> x.split(1, 100));
    refuses("no chunk, nor shard", BOUNDS, FRESH, x -> x.move(3, 3));
    refuses("no shard, and one moves", ARGUMENT, RICH, x -> x.move(1, 3));
    refuses("too many, and none moves", ARGUMENT, FRESH, x -> x.copy(21));
    refuses("no field, and one moves", ARGUMENT, RICH, x -> x.key(8, true));
    refuses("no chunk, and no such thing", BOUNDS, FRESH, x -> x.chunk(3, 4));
    refuses("no entry, and no such thing", BOUNDS, FRESH, x -> x.change(1, 3));
  }

  static void interfaces() {
    saysNoMore("Ahead of the calls nothing, number, word, row, object, add, give, drop the interface says: ---- the"
        + " pile.");
    says("Ahead of the calls insert, update, remove, rule the interface says: ---- documents; a router is used by a"
        + " call of these that does not throw.");
    Maker stale = () -> {
      Shardmoor x = with("{0:1,1:1}");
      x.split(0, 9);
      tell(x, "[]");
      return x;
    };
    refuses("insert", STATE, stale, x -> x.insert(1, 5));
    refuses("insert", ARGUMENT, stale, x -> x.insert(1, 100));
    refuses("update", BOUNDS, stale, x -> x.update(1, 5, 0, 0) ? 1 : 0);
    refuses("update", ARGUMENT, stale, x -> x.update(1, 0, 72, 0) ? 1 : 0);
    refuses("update", STATE, stale, x -> x.update(1, 0, 1, 2) ? 1 : 0);
    refuses("remove", BOUNDS, stale, x -> x.remove(1, 5));
    for (int call = 0; call < 4; call++) {
      Shardmoor x = stale.make();
      x.rule(7, 0);
      due("not by rule", x.router(1, 1), 0);
      if (call == 0) {
        x.object();
        x.insert(1, 5);
      } else if (call == 1) {
        x.update(1, 0, 1, SET);
      } else if (call == 2) {
        due("an update that changes nothing", x.update(1, 0, 7, UNSET), false);
      } else {
        x.remove(1, 0);
      }
      due("used by the call " + call, x.router(1, 0), 2);
      due("stale once", x.router(1, 1), 1);
      due("not the other", x.router(0, 0), 1);
    }
    saysNoMore("Ahead of the calls index, dropIndex, filter, clear, find, found, findAnew, plan, group, grouped the"
        + " interface says: ---- indexes, queries.");
    saysNoMore("Ahead of the calls split, move, copy, handOver, giveUp, clean, key the interface says: ---- shards.");
    saysNoMore("Ahead of the calls expire, tick the interface says: ---- time.");
    says("Ahead of the calls documents, document, print, entries, entriesAnew, chunk, shard, router, next, change, now"
        + " the interface says: ---- what there is; nothing from here on changes anything.");
    for (Maker state : ALL) {
      String before = seen(state, x -> 0);
      dueText("what is seen after all that only tells", seen(state, FindingTest::askAll), before);
    }
  }

  /** Each call that only tells, with arguments that are refused, too. */
  private static long askAll(Shardmoor x) {
    x.documents();
    x.now();
    for (int i = -1; i <= 3; i++) {
      int place = i;
      x.next(i);
      answer(x, y -> y.print(place));
      answer(x, y -> y.entries(place));
      answer(x, y -> y.entriesAnew(place));
      answer(x, y -> y.found(place));
      answer(x, y -> y.findAnew());
      for (int w = -1; w <= 4; w++) {
        int what = w;
        answer(x, y -> y.document(place, what));
        answer(x, y -> y.chunk(place, what));
        answer(x, y -> y.shard(place, what));
        answer(x, y -> y.router(place, what));
        answer(x, y -> y.change(place, what));
      }
    }
    return 0;
  }

  public static void main(String[] args) {
    indexes();
    relations();
    filters();
    plans();
    keptPlans();
    droppedPlans();
    triedPlans();
    groups();
    changes();
    time();
    exceptions();
    interfaces();
    end();
  }
}
