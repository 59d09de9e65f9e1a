import java.io.IOException;
import java.nio.file.Files;
import java.nio.file.Path;
import java.util.List;
import java.util.regex.Pattern;
import java.util.stream.Collectors;

/** The rules of ../shared/LANGUAGE.md that can be seen in the text of the class; run where src is. */
public final class LanguageTest {
  private static final Path SOURCE = Path.of("src/main/java/Shardmoor.java");
  private static final Path DOCUMENT = Path.of("../shared/DOC.md");

  /** What the class could use by the rules only in ways that it has no need of, or not at all. */
  private static final String[] UNUSED = {"->", "::", "\\btry\\b", "\\bcatch\\b", "\\bfinally\\b", "\\bsynchronized\\b",
      "\\bassert\\b", "\\bimport\\b", "\\bpackage\\b", "Exact\\b", "\\bObject\\b", "\\bString\\b", "\\bhashCode\\b",
      "\\btoString\\b", "\\bequals\\b", "\\bprotected\\b", "\\bRandom\\b", "\\bThread\\b", "\\bSystem\\.(?!arraycopy)",
      "\"\\s*\\+", "\\+\\s*\"", "[^\\x00-\\x7f]", "\\bstatic (?!final\\b)[\\w\\[\\]]+ \\w+ ?[=;]", "\\bstatic \\{"};

  private static int wrong = 0;

  private static void complain(String what) {
    wrong++;
    System.out.println(what);
  }

  private static List<String> all(String pattern, String code) {
    return Pattern.compile(pattern).matcher(code).results().map(found -> found.group(1)).collect(Collectors.toList());
  }

  public static void main(String[] args) throws IOException {
    String code = Files.readString(SOURCE).replaceAll("(?s)/\\*.*?\\*/", "").replaceAll("//[^\n]*", "");
    for (String pattern : UNUSED) {
      if (Pattern.compile(pattern).matcher(code).find()) {
        complain("the class uses " + pattern);
      }
    }
    if (all("\\bclass (\\w+)", code).size() > 12) {
      complain("more than 12 classes");
    }
    List<String> face = all("\n  public (?:int|long|boolean) (\\w+)\\(", code);
    if (face.size() != 42) {
      complain("the face has " + face.size() + " methods, due are 42");
    }
    List<String> own = all("\n +(?!public)(?:private )?(?:static )?(?:int|long|boolean|void|Value|Filter) (\\w+)\\(", code);
    if (own.size() < 100) {
      complain("only " + own.size() + " methods of its own are seen");
    }
    for (String name : face) {
      if (own.contains(name)) {
        complain("a method of its own bears the name " + name);
      }
    }
    methods(code.split("\n"));
    face(code.replaceAll("\\s+", " "));
    System.out.println(wrong == 0 ? "no rule is broken as far as is seen" : wrong + " rules are broken");
    if (wrong != 0) {
      System.exit(1);
    }
  }

  /** Each member that the document names stands as it is there, with its throws clause, and no other is public. */
  private static void face(String code) throws IOException {
    if (!Files.isReadable(DOCUMENT)) {
      return;
    }
    List<String> named = all("(?m)^ *(public [^;{]+);$", Files.readString(DOCUMENT));
    if (named.size() != 43) {
      complain("the document names " + named.size() + " members, known are 43");
    }
    for (String member : named) {
      if (!code.contains(member + " {")) {
        complain("not as in the document: " + member);
      }
    }
    int publics = all("\\b(public)\\b", code).size();
    if (publics != named.size() + 1) {
      complain("public are " + publics + ", due are " + (named.size() + 1));
    }
  }

  /** No method with more than 60 lines, none with more than 7 parameters. */
  private static void methods(String[] lines) {
    int begun = 0;
    String end = null;
    for (int i = 0; i < lines.length; i++) {
      if (lines[i].equals(end)) {
        if (i - begun > 60) {
          complain("more than 60 lines: " + lines[begun]);
        }
        end = null;
      } else if (end == null && lines[i].matches("(  |    )[a-zA-Z][^=;]*\\([^;]*")) {
        begun = i;
        end = lines[i].replaceAll("\\S.*", "") + "}";
        if (lines[i].split(",").length > 7) {
          complain("more than 7 parameters: " + lines[i]);
        }
      }
    }
  }
}
