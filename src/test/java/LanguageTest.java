import java.io.IOException;
import java.nio.charset.StandardCharsets;
import java.nio.file.Files;
import java.nio.file.Path;
import java.util.regex.Matcher;
import java.util.regex.Pattern;

/** What of LANGUAGE.md can be told from the text of the class alone. */
public final class LanguageTest {
  private static final Due due = new Due();

  /** Words and signs that the rules leave out, or that this class has no need of. */
  private static final String[] LEFT_OUT = {"\\bimport\\b", "\\bpackage\\b", "\\btry\\b", "\\bcatch\\b", "\\bfinally\\b", "\\bthrows?\\b",
      "->", "::", "\\bsynchronized\\b", "\\bassert\\b", "Exact\\b", "\\bvar\\b", "\\bvolatile\\b", "\\btransient\\b", "\\bnative\\b",
      "\\bprotected\\b", "\\bfloat\\b", "\\bdouble\\b", "\\bObject\\b", "\\bequals\\b", "\\bhashCode\\b", "\\btoString\\b",
      "\\bThread\\b", "\\bRandom\\b", "\\bSystem\\.(?!arraycopy\\b)", "\\bstatic \\{", "\\binstanceof\\b", "@"};

  public static void main(String[] args) throws IOException {
    String source = args.length > 0 ? args[0] : "src/main/java/CoinNotThere.java";
    String text = new String(Files.readAllBytes(Path.of(source)), StandardCharsets.ISO_8859_1);
    for (int i = 0; i < text.length(); i++) {
      char c = text.charAt(i);
      if (c > 126 || c < 32 && c != '\n') due.is("sign " + i, c, '\n');
    }
    String code = text.replaceAll("(?s)/\\*.*?\\*/", "").replaceAll("//[^\n]*", "");
    for (String word : LEFT_OUT) due.is("rule: " + word, many(code, word), 0);
    due.is("rule 5: static fields that may change", many(code, "(?m)^ +(private |public )?static (?!final)[\\w\\[\\]]+ \\w+( =|;)"), 0);
    due.is("rule 11: some twelve classes", many(code, "\\b(class|interface|enum|record) \\w") <= 12 ? 1 : 0, 1);
    due.is("rule 12: rows are made by fields alone", many(code, "(?m)^ {12}.*\\bnew \\w"), 0);
    methods(code);
    due.end();
  }

  private static int many(String code, String pattern) {
    Matcher m = Pattern.compile(pattern).matcher(code);
    int many = 0;
    while (m.find()) many++;
    return many;
  }

  /** A method begins at a line that ends in ") {" and ends at the } below its first sign. */
  private static void methods(String code) {
    Matcher m = Pattern.compile("(?m)^( +)[\\w \\[\\]]+\\(([^()]*)\\) \\{$").matcher(code);
    int seen = 0;
    while (m.find()) {
      seen++;
      int end = code.indexOf("\n" + m.group(1) + "}", m.end());
      long lines = code.substring(m.start(), end).chars().filter(c -> c == '\n').count();
      due.is("rule 11: short: " + m.group(), lines <= 60 ? 1 : 0, 1);
      due.is("rule 11: seven parameters: " + m.group(), m.group(2).split(",").length <= 7 ? 1 : 0, 1);
    }
    due.is("methods are found", seen > 36 ? 1 : 0, 1);
  }
}
