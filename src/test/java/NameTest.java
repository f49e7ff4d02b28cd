/** Promise 7, look: the escapes and the path of term 2, a test for each sentence. */
public final class NameTest {
  private static final String OK = "1 200";
  private static final String NONE = "1 404";
  private static final String FAULTY = "2 400";
  private static final String LONGEST = "/" + "x".repeat(46);
  private static final String FOLDER = "/" + "y".repeat(35) + "/";
  private static final byte[] IMAGE = Bench.image(new String[][] {{"/a%?~!", "x"}, {"/d/index.html", "y"},
      {"/%41", "z"}, {"/jzjz0p@", ""}, {LONGEST, "long"}, {FOLDER + "index.html", "folder"}, {"/", "slash"},
      {"/E", "e"}, {"/dindex.html", ""}});

  public static void main(String[] args) {
    Bench.says("a % not with two hexadecimal digits behind: 400", NameTest::digitsMissing);
    Bench.says("hexadecimal digits, great and small", NameTest::digitCodes);
    Bench.says("a % telling a code not 33 .. 126: 400", NameTest::escapedCodes);
    Bench.says("a % before the first ?", NameTest::behindTheMark);
    Bench.says("the path is the target up to the first ?", NameTest::upToTheMark);
    Bench.says("with its % replaced", NameTest::replaced);
    Bench.says("and index.html behind if it ends with /", NameTest::index);
    Bench.says("more than 47 codes: 404", NameTest::tooLong);
    Bench.says("no file of that name: 404", NameTest::noFile);
    Bench.says("no file at all: 404", NameTest::noFileAtAll);
    Bench.finish();
  }

  private static void target(String target, String due) {
    Bench.due(target, Bench.number(Bench.opened(IMAGE), "GET " + target + " HTTP/1.1\nHost:\n\n"), due);
  }

  private static void digitsMissing() {
    for (String each : new String[] {"/%", "/a%", "/%4", "/a%4", "/%?", "/%4?", "/%?41", "/%4?1", "/%%41", "/%4%41",
        "/%41%", "/%41%4", "/%-1", "/%+1", "/%4-", "/%0x41", "/%zz", "/%4\u007e", "/a/%/b",
        "/" + "a".repeat(60) + "%"}) {
      target(each, FAULTY);
    }
  }

  private static void digitCodes() {
    for (int code = 33; code <= 126; code++) {
      boolean digit = Character.digit(code, 16) >= 0;
      if (code != '%') {
        target("/no%4" + (char) code, digit ? NONE : FAULTY);
        target("/no%" + (char) code + "1", digit && "234567".indexOf(code) >= 0 ? NONE : FAULTY);
      }
    }
    target("/%6a%7a%6A%7A%30%70%40", OK);
  }

  private static void escapedCodes() {
    for (int code = 0; code < 256; code++) {
      String due = code >= 33 && code <= 126 ? NONE : FAULTY;
      target(String.format("/no%%%02x", code), due);
      target(String.format("/no%%%02Xno", code), due);
    }
  }

  private static void behindTheMark() {
    for (String each : new String[] {"?%", "?%4", "?%zz", "?%00", "?a%20", "??%", "?" + "%".repeat(100)}) {
      target("/E" + each, OK);
      target("/e" + each, NONE);
    }
    target("/%zz?%41", FAULTY);
  }

  private static void upToTheMark() {
    target("/E?", OK);
    target("/E?x", OK);
    target("/E?/", OK);
    target("/E?a?b", OK);
    target("/d/?", OK);
    target("/d/?x", OK);
    target("/d?/", NONE);
    target("/?E", NONE);
    target("/a%25?~!", NONE);
    target("/E?" + "x".repeat(3000), OK);
  }

  private static void replaced() {
    target("/%61%25%3f%7E%21", OK);
    target("/a%25%3F~!", OK);
    target("/%45", OK);
    target("/%2541", OK);
    target("/%41", NONE);
    target("/%65", NONE);
    target("/%2545", NONE);
    target(LONGEST.replace("x", "%78"), OK);
    target("/%64%2f%69ndex.htm%6C", OK);
  }

  private static void index() {
    target("/d/", OK);
    target("/d/index.html", OK);
    target("/d", NONE);
    target("/d//", NONE);
    target("/d%2f", OK);
    target("/d%2F", OK);
    target(FOLDER, OK);
    Bench.due("the name / is not to be had", Bench.body(Bench.opened(IMAGE), "/"), "404 Not Found\n");
    Bench.due("/ is /index.html", Bench.body(Bench.opened(), "/"), Bench.HTML);
  }

  private static void tooLong() {
    target(LONGEST, OK);
    target(LONGEST + "x", NONE);
    target(LONGEST + "%78", NONE);
    target(LONGEST + "?x", OK);
    target("/y" + FOLDER, NONE);
    target(FOLDER + "/", NONE);
    target("/" + "z".repeat(3000), NONE);
    target("/" + "%7a".repeat(1000), NONE);
    target("/" + "z".repeat(3000) + "/", NONE);
    target("/" + "z".repeat(60) + "%zz", FAULTY);
    Bench.due("nothing of a long one stays", longThenShort(), "1 404, 1 200");
  }

  private static String longThenShort() {
    RequestReader x = Bench.opened(IMAGE);
    return Bench.number(x, "GET " + LONGEST + "x HTTP/1.1\nHost:\n\n") + ", "
        + Bench.number(x, "GET /E HTTP/1.1\nHost:\n\n");
  }

  private static void noFile() {
    target("/e", NONE);
    target("/EE", NONE);
    target("/E/", NONE);
    target("//E", NONE);
    target(LONGEST.substring(0, 46), NONE);
    target(LONGEST.substring(0, 46) + "y", NONE);
    target("/a", NONE);
  }

  private static void noFileAtAll() {
    Bench.due("an image without files", Bench.ask(Bench.image(), "GET / HTTP/1.1\nHost:\n\n"),
        "1 " + Bench.failure("404 Not Found", false));
  }
}
