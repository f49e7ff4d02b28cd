/** Promises 7, 10 and 11: names with escapes, marks, persistence, and the answer's bytes. */
public final class AnswerTest {
  private static final String OK = "1 200";

  public static void main(String[] args) {
    escapes();
    names();
    types();
    marks();
    persistence();
    wholeAnswers();
    largeBody();
    lengthAndAt();
    Bench.finish();
  }

  private static String target(byte[] image, String target) {
    String answer = Bench.ask(image, "GET " + target + " HTTP/1.1\nHost:\n\n");
    return answer.substring(0, 2) + answer.substring(11, 14);
  }

  private static void escapes() {
    byte[] image = Bench.image(new String[][] {{"/a%?~!", "x"}, {"/d/index.html", "y"}, {"/%41", "z"}, {"/jzjz0p@", ""}});
    Bench.due("all escaped", target(image, "/%61%25%3f%7E%21"), OK);
    Bench.due("the slash too", target(image, "%2Fa"), "2 400");
    Bench.due("some escaped", target(image, "/a%25%3F~!"), OK);
    Bench.due("a query", target(image, "/%61%25%3f%7e!?%zz%"), OK);
    Bench.due("an empty query", target(image, "/d/?"), OK);
    Bench.due("a query with slash", target(image, "/d?/"), "1 404");
    Bench.due("a query with two ?", target(image, "/d/?a?/%"), OK);
    Bench.due("an escaped last slash", target(image, "/d%2f"), OK);
    Bench.due("escaped once only", target(image, "/%2541"), OK);
    Bench.due("not the code itself", target(image, "/%41"), "1 404");
    Bench.due("digits a and 0", target(image, "/%6a%7a%6A%7A%30%70%40"), OK);
    String[] faulty = {"/%4g", "/%4G", "/%g4", "/%", "/%4", "/%4?", "/%?41", "/a%", "/%g1", "/%1g", "/%G1", "/%1G", "/%/1", "/%:1", "/%@1",
        "/%`1", "/%1/", "/%20", "/%7f", "/%7F", "/%80", "/%ff", "/%00", "/%%41", "/%-1", "/%+1", "/%41%",
        "/%1", "/%1?1"};
    for (String each : faulty) {
      Bench.due(each, target(image, each), "2 400");
    }
    Bench.due("a faulty one behind 47 codes", target(image, "/" + "a".repeat(60) + "%zz"), "2 400");
  }

  private static void names() {
    String longest = "/" + "x".repeat(46);
    String folder = "/" + "y".repeat(35) + "/";
    byte[] image = Bench.image(new String[][] {{longest, "x"}, {folder + "index.html", "y"}, {"/", "z"}, {"/E", "e"}});
    Bench.due("47 codes", target(image, longest), OK);
    Bench.due("48 codes", target(image, longest + "x"), "1 404");
    Bench.due("47 codes escaped", target(image, longest.replace("x", "%78")), OK);
    Bench.due("47 codes with index.html", target(image, folder), OK);
    Bench.due("48 codes with index.html", target(image, "/y" + folder), "1 404");
    Bench.due("a part", target(image, longest.substring(1)), "2 400");
    Bench.due("a shorter one", target(image, longest.substring(0, 46)), "1 404");
    Bench.due("the name / is not to be had", target(image, "/"), "1 404");
    Bench.due("great letters", target(image, "/E"), OK);
    Bench.due("small letters", target(image, "/e"), "1 404");
    Bench.due("a very long one", target(image, "/" + "z".repeat(3000)), "1 404");
  }

  private static void type(String name, String type) {
    byte[] image = Bench.image(new String[][] {{name, "b"}});
    Bench.due("type of " + name, Bench.ask(image, "GET " + name + " HTTP/1.1\nHost:\n\n"),
        "1 " + Bench.successHead("b", type, false) + "b");
  }

  private static void types() {
    type("/a.html", "text/html");
    type("/.html", "text/html");
    type("/a.css", "text/css");
    type("/a.js", "text/javascript");
    type("/a.txt", "text/plain");
    type("/a.png", "image/png");
    type("/a", "application/octet-stream");
    type("/html", "application/octet-stream");
    type("/a.HTML", "application/octet-stream");
    type("/a.html.gz", "application/octet-stream");
    type("/a.jss", "application/octet-stream");
    type("/a.txt.png", "image/png");
  }

  private static void match(String fields, String due) {
    Bench.due(fields, Bench.number("GET /a.txt HTTP/1.1\nHost:\n" + fields + "\n"), due);
  }

  private static void marks() {
    String mark = Bench.mark(Bench.TEXT);
    String notModified = "1 304";
    match("If-None-Match: *\n", notModified);
    match("if-NONE-match:" + mark + " \t\n", notModified);
    match("If-None-Match:\n", OK);
    match("If-None-Match: **\n", OK);
    match("If-None-Match: W/" + mark + "\n", OK);
    match("If-None-Match: " + mark + ", \"a\"\n", OK);
    match("If-None-Match: " + mark.replace("\"", "") + "\n", OK);
    match("If-None-Match: " + mark.toUpperCase() + "\n", OK);
    match("If-None-Match: " + mark.substring(0, 9) + "\n", OK);
    match("If-None-Match: " + mark.substring(0, 8) + "x\"\n", OK);
    match("If-None-Match: x" + mark.substring(1) + "\n", OK);
    match("If-None-Match: *\nIf-None-Match: *\n", OK);
    match("If-None-Match: a\nIf-None-Match: " + mark + "\n", OK);
    match("If-Match: *\n", OK);
    Bench.due("a mark with zeros", target(zeroImage(), "/0"), OK);
    Bench.due("its answer", Bench.ask(zeroImage(), "GET /0 HTTP/1.1\nHost:\nIf-None-Match: \"00000000\"\n\n"),
        "1 HTTP/1.1 304 Not Modified\r\nETag: \"00000000\"\r\n\r\n");
  }

  /** The check of no bytes is 0. */
  private static byte[] zeroImage() {
    return Bench.image(new String[][] {{"/0", ""}});
  }

  private static void persistent(String version, String fields, boolean due) {
    String head = "GET /a.txt HTTP/" + version + "\nHost:\n" + fields + "\n";
    Bench.due(head, Bench.ask(head),
        (due ? "1 " : "2 ") + Bench.successHead(Bench.TEXT, "text/plain", !due) + Bench.TEXT);
  }

  private static void persistence() {
    persistent("1.1", "", true);
    persistent("1.1", "Connection: close\n", false);
    persistent("1.1", "connection: CLOSE\n", false);
    persistent("1.1", "Connection: a,close\tb\n", false);
    persistent("1.1", "Connection: a\tcLose\n", false);
    persistent("1.1", "Connection: x\nConnection: close,\nConnection: y\n", false);
    persistent("1.1", "Connection: keep-alive, close\n", false);
    persistent("1.1", "Connection: closed, xclose, clos;close\n", true);
    persistent("1.1", "Connection:\n", true);
    persistent("1.1", "Connections: close\n", true);
    persistent("1.0", "", false);
    persistent("1.0", "Connection: keep-alive\n", true);
    persistent("1.0", "Connection: Upgrade , ,Keep-Alive,\n", true);
    persistent("1.0", "Connection: a\nConnection: keep-alive\n", true);
    persistent("1.0", "Connection: keep-alive\nConnection: close\n", false);
    persistent("1.0", "Connection: close keep-alive\n", false);
    persistent("1.0", "Connection: keepalive\n", false);
    persistent("1.0", "Connection: keep, alive\n", false);
  }

  private static void wholeAnswers() {
    String host = " HTTP/1.1\r\nHost: a\r\n";
    Bench.due("GET", Bench.ask("GET /" + host + "\r\n"), "1 " + Bench.successHead(Bench.HTML, "text/html", false) + Bench.HTML);
    Bench.due("HEAD", Bench.ask("HEAD /" + host + "\r\n"), "1 " + Bench.successHead(Bench.HTML, "text/html", false));
    Bench.due("HEAD to close", Bench.ask("HEAD / HTTP/1.0\n\n"), "2 " + Bench.successHead(Bench.HTML, "text/html", true));
    String notModified = "HTTP/1.1 304 Not Modified\r\nETag: " + Bench.mark(Bench.HTML) + "\r\n";
    Bench.due("304", Bench.ask("GET /" + host + "If-None-Match: *\n\n"), "1 " + notModified + "\r\n");
    Bench.due("304 to close", Bench.ask("HEAD / HTTP/1.0\nIf-None-Match: *\n\n"),
        "2 " + notModified + "Connection: close\r\n\r\n");
    Bench.due("400", Bench.ask("GET /%" + host + "\n"), "2 " + Bench.failure("400 Bad Request", true));
    Bench.due("HEAD 400", Bench.ask("HEAD /%" + host + "\n"), "2 " + Bench.failureHead("400 Bad Request", true));
    Bench.due("404", Bench.ask("GET /x" + host + "\n"), "1 " + Bench.failure("404 Not Found", false));
    Bench.due("HEAD 404", Bench.ask("HEAD /x" + host + "\n"), "1 " + Bench.failureHead("404 Not Found", false));
    Bench.due("404 to close", Bench.ask("GET /x HTTP/1.0\n\n"), "2 " + Bench.failure("404 Not Found", true));
    Bench.due("405", Bench.ask("PUT /x" + host + "\n"), "1 " + Bench.failure("405 Method Not Allowed", false));
    Bench.due("405 to close", Bench.ask("PUT /x HTTP/1.0\n\n"), "2 " + Bench.failure("405 Method Not Allowed", true));
    Bench.due("413", Bench.ask("PUT /x" + host + "Content-Length: 70000\n\n"), "2 " + Bench.failure("413 Content Too Large", true));
    Bench.due("501", Bench.ask("PUT /x" + host + "Transfer-Encoding: x\n\n"), "2 " + Bench.failure("501 Not Implemented", true));
    Bench.due("HEAD 501", Bench.ask("HEAD /x" + host + "Transfer-Encoding: x\n\n"), "2 " + Bench.failureHead("501 Not Implemented", true));
    Bench.due("keep-alive does not help", Bench.ask("GET / HTTP/1.0\nConnection: keep-alive\nx\n\n"),
        "2 " + Bench.failure("400 Bad Request", true));
  }

  private static void largeBody() {
    StringBuilder content = new StringBuilder();
    for (int i = 0; i < 60000; i++) {
      content.append((char) (i * 7 % 256));
    }
    byte[] image = Bench.image(new String[][] {{"/b", content.toString()}});
    Bench.due("a large file", Bench.ask(image, "GET /b HTTP/1.1\nHost:\n\n"),
        "1 " + Bench.successHead(content.toString(), "application/octet-stream", false) + content);
    String largest = "x".repeat(65535 - 76);
    image = Bench.image(new String[][] {{"/b", largest}});
    Bench.due("the largest file", Bench.ask(image, "GET /b HTTP/1.0\n\n"),
        "2 " + Bench.successHead(largest, "application/octet-stream", true) + largest);
    byte[] short10 = Bench.image(new String[][] {{"/b", content.substring(0, 10)}});
    Bench.due("10 bytes", Bench.ask(short10, "GET /b HTTP/1.1\nHost:\n\n"),
        "1 " + Bench.successHead(content.substring(0, 10), "application/octet-stream", false) + content.substring(0, 10));
  }

  private static void lengthAndAt() {
    byte[] image = Bench.image(new String[][] {{"/b", "\u0000\u00ff\u0080"}});
    RequestReader x = Bench.opened(image);
    Bench.come(x, "GET /b HTTP/1.1\nHost:\n\nGET /c HTTP/1.1\nHost:\n\nx");
    Bench.due("at(0) without an answer", x.at(0), -1);
    Bench.due("length() without an answer", x.length(), 0);
    x.look();
    int length = Bench.successHead("abc", "application/octet-stream", false).length() + 3;
    Bench.due("length()", x.length(), length);
    Bench.due("at(0)", x.at(0), (int) 'H');
    Bench.due("at(-1)", x.at(-1), -1);
    Bench.due("at(MIN)", x.at(Integer.MIN_VALUE), -1);
    Bench.due("at(MAX)", x.at(Integer.MAX_VALUE), -1);
    Bench.due("at(length)", x.at(length), -1);
    Bench.due("byte 0", x.at(length - 3), 0);
    Bench.due("byte 255", x.at(length - 2), 255);
    Bench.due("byte 128", x.at(length - 1), 128);
    x.look();
    Bench.due("the latest answer", Bench.answer(x), Bench.failure("404 Not Found", false));
    int shorter = x.length();
    Bench.due("nothing of the one before", x.at(shorter), -1);
    Bench.due("look() finds none", x.look(), 0);
    Bench.due("the answer stays", x.length(), shorter);
  }
}
