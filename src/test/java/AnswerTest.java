/** Promises 7, 10 and 11: marks, persistence and the answer's bytes (term 2), a test for each sentence. */
public final class AnswerTest {
  private static final String OCTETS = "application/octet-stream";
  private static final String HOST = " HTTP/1.1\r\nHost: a\r\n";
  private static final String MARK = Bench.mark(Bench.TEXT);

  public static void main(String[] args) {
    Bench.says("if-none-match: a value that is *: 304", AnswerTest::star);
    Bench.says("if-none-match: a value that is the file's mark: 304", AnswerTest::matchingMark);
    Bench.says("if-none-match: in the only such field", AnswerTest::onlyMatch);
    Bench.says("persistent is a connection with 1.1 unless a field has the word close", AnswerTest::newer);
    Bench.says("persistent with 1.0 only if one has the word keep-alive and none close", AnswerTest::older);
    Bench.says("words are separated by commas, blanks and tabs", AnswerTest::separators);
    Bench.says("words' letters great or small", AnswerTest::wordLetters);
    Bench.says("to be closed if it is not persistent", AnswerTest::notPersistent);
    Bench.says("to be closed if the answer is 400, 413, 431, 500 or 501", AnswerTest::closingAnswers);
    Bench.says("200 OK", AnswerTest::ok);
    Bench.says("304 Not Modified, without length, type and body", AnswerTest::notModified);
    Bench.says("400 Bad Request", AnswerTest::badRequest);
    Bench.says("404 Not Found", AnswerTest::notFound);
    Bench.says("405 Method Not Allowed, with Allow", AnswerTest::notAllowed);
    Bench.says("413 Content Too Large", AnswerTest::bodyTooLarge);
    Bench.says("431 Request Header Fields Too Large", AnswerTest::headTooLarge);
    Bench.says("500 Internal Server Error", AnswerTest::brokenFile);
    Bench.says("501 Not Implemented", AnswerTest::notImplemented);
    Bench.says("the body, if there is one and the method is not HEAD", AnswerTest::noBodyForHead);
    Bench.says("Content-Length from 0 to the largest", AnswerTest::lengths);
    Bench.says("Content-Type by the name's end", AnswerTest::types);
    Bench.says("the mark is the check in 8 small hexadecimal digits", AnswerTest::markDigits);
    Bench.says("for 431 and a faulty request line the method is taken as GET", AnswerTest::takenAsGet);
    Bench.says("10: the length of the latest answer", AnswerTest::latestLength);
    Bench.says("10: 0 if there was none", AnswerTest::noLength);
    Bench.says("11: byte i of it", AnswerTest::bytesOfIt);
    Bench.says("11: -1 if there is none", AnswerTest::noByte);
    Bench.finish();
  }

  private static void match(String fields, String due) {
    Bench.due(fields, Bench.number("GET /a.txt HTTP/1.1\nHost:\n" + fields + "\n"), due);
  }

  private static void star() {
    match("If-None-Match: *\n", "1 304");
    match("If-None-Match:*\n", "1 304");
    match("If-None-Match:\t * \t\n", "1 304");
    match("If-None-Match:\n", "1 200");
    match("If-None-Match: **\n", "1 200");
    match("If-None-Match: * *\n", "1 200");
    match("If-None-Match: *,\n", "1 200");
    match("If-None-Match: \"*\"\n", "1 200");
    match("If-None-Match: +\n", "1 200");
    match("If-Match: *\n", "1 200");
  }

  private static void matchingMark() {
    match("If-None-Match: " + MARK + "\n", "1 304");
    match("If-None-Match:" + MARK + " \t\n", "1 304");
    match("If-None-Match: W/" + MARK + "\n", "1 200");
    match("If-None-Match: " + MARK + ", \"a\"\n", "1 200");
    match("If-None-Match: " + MARK + MARK + "\n", "1 200");
    match("If-None-Match: " + MARK.replace("\"", "") + "\n", "1 200");
    match("If-None-Match: " + MARK.toUpperCase() + "\n", "1 200");
    match("If-None-Match: " + Bench.mark(Bench.HTML) + "\n", "1 200");
    for (int i = 0; i < MARK.length(); i++) {
      match("If-None-Match: " + MARK.substring(0, i) + "x" + MARK.substring(i + 1) + "\n", "1 200");
      match("If-None-Match: " + MARK.substring(0, i) + MARK.substring(i + 1) + "\n", "1 200");
    }
    Bench.due("HEAD too", Bench.number("HEAD /a.txt HTTP/1.1\nHost:\nIf-None-Match: " + MARK + "\n\n"), "1 304");
  }

  private static void onlyMatch() {
    match("If-None-Match: *\nIf-None-Match: *\n", "1 200");
    match("If-None-Match: a\nIf-None-Match: " + MARK + "\n", "1 200");
    match("If-None-Match: " + MARK + "\nif-none-match: a\n", "1 200");
    match("If-None-Match: *\n".repeat(3), "1 200");
    RequestReader x = Bench.opened();
    String head = "GET / HTTP/1.1\nHost:\nIf-None-Match: *\n\n";
    Bench.due("one field in each head", Bench.number(x, head) + Bench.number(x, head), "1 3041 304");
    Bench.due("none in the next", Bench.body(x, "/a.txt"), Bench.TEXT);
  }

  private static void persistent(String version, String fields, boolean due) {
    String head = "GET /a.txt HTTP/" + version + "\nHost:\n" + fields + "\n";
    Bench.due(head, Bench.ask(head),
        (due ? "1 " : "2 ") + Bench.successHead(Bench.TEXT, "text/plain", !due) + Bench.TEXT);
  }

  private static void newer() {
    persistent("1.1", "", true);
    persistent("1.1", "Connection: close\n", false);
    persistent("1.1", "Connection:\n", true);
    persistent("1.1", "Connection: keep-alive\n", true);
    persistent("1.1", "Connection: keep-alive, close\n", false);
    persistent("1.1", "Connection: close, keep-alive\n", false);
    persistent("1.1", "Connection: close\nConnection: x\n", false);
    persistent("1.1", "Connection: x\nConnection: close\nConnection: y\n", false);
    persistent("1.1", "Connections: close\nX: close\n", true);
  }

  private static void older() {
    persistent("1.0", "", false);
    persistent("1.0", "Connection:\n", false);
    persistent("1.0", "Connection: keep-alive\n", true);
    persistent("1.0", "Connection: close\n", false);
    persistent("1.0", "Connection: a\nConnection: keep-alive\n", true);
    persistent("1.0", "Connection: keep-alive\nConnection: a\n", true);
    persistent("1.0", "Connection: keep-alive\nConnection: close\n", false);
    persistent("1.0", "Connection: close\nConnection: keep-alive\n", false);
    persistent("1.0", "Connection: close keep-alive\n", false);
    persistent("1.0", "Keep-Alive: keep-alive\n", false);
    RequestReader x = Bench.opened();
    Bench.due("only its own fields", Bench.number(x, "GET / HTTP/1.0\nConnection: keep-alive\n\n")
        + Bench.number(x, "GET / HTTP/1.0\n\n"), "1 2002 200");
    Bench.due("only its own version", Bench.number(x, "GET / HTTP/1.1\nHost:\nConnection: close\n\n")
        + Bench.number(x, "GET / HTTP/1.1\nHost:\n\n"), "2 2001 200");
  }

  private static void separators() {
    for (String each : new String[] {"close,a", "a,close", "a,close,b", "a close b", "a\tclose\tb", ",close",
        "close,", ",,close", "a, \tclose", ", , close , ,"}) {
      persistent("1.1", "Connection: " + each + "\n", false);
      persistent("1.0", "Connection: " + each.replace("close", "keep-alive") + "\n", true);
    }
    for (String each : new String[] {"closed", "xclose", "close;a", "a;close", "close.", "\"close\"", "clos",
        "c lose", "clos,e", "\u00a0close", "close-"}) {
      persistent("1.1", "Connection: " + each + "\n", true);
    }
    for (String each : new String[] {"keepalive", "keep, alive", "keep -alive", "keep-alive1", "xkeep-alive",
        "keep_alive"}) {
      persistent("1.0", "Connection: " + each + "\n", false);
    }
  }

  private static void wordLetters() {
    persistent("1.1", "Connection: CLOSE\n", false);
    persistent("1.1", "Connection: cLosE\n", false);
    persistent("1.0", "Connection: Keep-Alive\n", true);
    persistent("1.0", "Connection: KEEP-ALIVE\n", true);
    persistent("1.0", "Connection: keep-alive, Close\n", false);
  }

  private static void notPersistent() {
    Bench.due("200", Bench.ask("HEAD / HTTP/1.0\n\n"), "2 " + Bench.successHead(Bench.HTML, "text/html", true));
    Bench.due("304", Bench.ask("GET / HTTP/1.0\nIf-None-Match: *\n\n"),
        "2 HTTP/1.1 304 Not Modified\r\nETag: " + Bench.mark(Bench.HTML) + "\r\nConnection: close\r\n\r\n");
    Bench.due("404", Bench.ask("GET /x HTTP/1.0\n\n"), "2 " + Bench.failure("404 Not Found", true));
    Bench.due("404 in 1.1", Bench.ask("GET /x" + HOST + "Connection: close\n\n"), "2 "
        + Bench.failure("404 Not Found", true));
    Bench.due("405", Bench.ask("PUT / HTTP/1.0\n\n"), "2 " + Bench.failure("405 Method Not Allowed", true));
    Bench.due("405 in 1.1", Bench.ask("PUT /" + HOST + "Connection: close\n\n"), "2 "
        + Bench.failure("405 Method Not Allowed", true));
    Bench.due("404 that is persistent", Bench.number("GET /x HTTP/1.0\nConnection: keep-alive\n\n"), "1 404");
  }

  private static void closingAnswers() {
    for (String keep : new String[] {HOST, " HTTP/1.0\nConnection: keep-alive\n"}) {
      Bench.due("400", Bench.number("GET /%" + keep + "\n"), "2 400");
      Bench.due("413", Bench.number("GET /" + keep + "Content-Length: 70000\n\n"), "2 413");
      Bench.due("501", Bench.number("GET /" + keep + "Transfer-Encoding: a\n\n"), "2 501");
      String start = "GET /" + keep;
      Bench.due("431", Bench.number(start + "a".repeat(4096 - start.length())), "2 431");
      RequestReader x = Bench.opened();
      x.damage(12 + 3 * 64, 0);
      Bench.due("500", Bench.number(x, "GET /" + keep + "\n"), "2 500");
      Bench.due("200", Bench.number("GET /" + keep + "\n"), "1 200");
      Bench.due("304", Bench.number("GET /" + keep + "If-None-Match: *\n\n"), "1 304");
      Bench.due("404", Bench.number("GET /x" + keep + "\n"), "1 404");
      Bench.due("405", Bench.number("PUT /" + keep + "\n"), "1 405");
    }
  }

  private static void ok() {
    Bench.due("200", Bench.ask("GET /" + HOST + "\r\n"),
        "1 HTTP/1.1 200 OK\r\nContent-Length: 12\r\nContent-Type: text/html\r\n"
        + "ETag: " + Bench.mark(Bench.HTML) + "\r\n\r\n" + Bench.HTML);
    Bench.due("200 to close", Bench.ask("GET /a.txt HTTP/1.0\n\n"), "2 HTTP/1.1 200 OK\r\nContent-Length: 11\r\n"
        + "Content-Type: text/plain\r\nETag: " + MARK + "\r\nConnection: close\r\n\r\n" + Bench.TEXT);
    Bench.due("200 without a body", Bench.ask("GET /none" + HOST + "\n"), "1 HTTP/1.1 200 OK\r\nContent-Length: 0\r\n"
        + "Content-Type: application/octet-stream\r\nETag: \"00000000\"\r\n\r\n");
  }

  private static void notModified() {
    String head = "HTTP/1.1 304 Not Modified\r\nETag: " + MARK + "\r\n";
    Bench.due("304", Bench.ask("GET /a.txt" + HOST + "If-None-Match: *\n\n"), "1 " + head + "\r\n");
    Bench.due("304 for HEAD", Bench.ask("HEAD /a.txt" + HOST + "If-None-Match: *\n\n"), "1 " + head + "\r\n");
    Bench.due("304 to close", Bench.ask("GET /a.txt HTTP/1.0\nIf-None-Match: *\n\n"), "2 " + head
        + "Connection: close\r\n\r\n");
  }

  private static void badRequest() {
    String head = "2 HTTP/1.1 400 Bad Request\r\nContent-Length: 16\r\nContent-Type: text/plain\r\n"
        + "Connection: close\r\n\r\n";
    Bench.due("400", Bench.ask("GET /%" + HOST + "\n"), head + "400 Bad Request\n");
    Bench.due("400 for HEAD", Bench.ask("HEAD /%" + HOST + "\n"), head);
  }

  private static void notFound() {
    String head = "1 HTTP/1.1 404 Not Found\r\nContent-Length: 14\r\nContent-Type: text/plain\r\n\r\n";
    Bench.due("404", Bench.ask("GET /x.html" + HOST + "\n"), head + "404 Not Found\n");
    Bench.due("404 for HEAD", Bench.ask("HEAD /x.html" + HOST + "\n"), head);
  }

  private static void notAllowed() {
    Bench.due("405", Bench.ask("PUT /x" + HOST + "\n"), "1 HTTP/1.1 405 Method Not Allowed\r\nContent-Length: 23\r\n"
        + "Content-Type: text/plain\r\nAllow: GET, HEAD\r\n\r\n405 Method Not Allowed\n");
    Bench.due("405 to close", Bench.ask("PUT /x HTTP/1.0\n\n"),
        "2 HTTP/1.1 405 Method Not Allowed\r\nContent-Length: 23\r\n"
        + "Content-Type: text/plain\r\nAllow: GET, HEAD\r\nConnection: close\r\n\r\n405 Method Not Allowed\n");
  }

  private static void bodyTooLarge() {
    String head = "2 HTTP/1.1 413 Content Too Large\r\nContent-Length: 22\r\nContent-Type: text/plain\r\n"
        + "Connection: close\r\n\r\n";
    Bench.due("413", Bench.ask("PUT /x" + HOST + "Content-Length: 65537\n\n"), head + "413 Content Too Large\n");
    Bench.due("413 for HEAD", Bench.ask("HEAD /x" + HOST + "Content-Length: 65537\n\n"), head);
  }

  private static void headTooLarge() {
    Bench.due("431", Bench.ask("a".repeat(4096)),
        "2 HTTP/1.1 431 Request Header Fields Too Large\r\nContent-Length: 36\r\n"
        + "Content-Type: text/plain\r\nConnection: close\r\n\r\n431 Request Header Fields Too Large\n");
  }

  private static void brokenFile() {
    byte[] image = Bench.image(new byte[][] {Bench.entry("/a.html", 0, 1, 0)}, new byte[0]);
    String head = "2 HTTP/1.1 500 Internal Server Error\r\nContent-Length: 26\r\nContent-Type: text/plain\r\n"
        + "Connection: close\r\n\r\n";
    Bench.due("500", Bench.ask(image, "GET /a.html" + HOST + "\n"), head + "500 Internal Server Error\n");
    Bench.due("500 for HEAD", Bench.ask(image, "HEAD /a.html" + HOST + "\n"), head);
  }

  private static void notImplemented() {
    String head = "2 HTTP/1.1 501 Not Implemented\r\nContent-Length: 20\r\nContent-Type: text/plain\r\n"
        + "Connection: close\r\n\r\n";
    Bench.due("501", Bench.ask("PUT /x" + HOST + "Transfer-Encoding: x\n\n"), head + "501 Not Implemented\n");
    Bench.due("501 for HEAD", Bench.ask("HEAD /x" + HOST + "Transfer-Encoding: x\n\n"), head);
  }

  private static void noBodyForHead() {
    Bench.due("HEAD", Bench.ask("HEAD /" + HOST + "\r\n"), "1 " + Bench.successHead(Bench.HTML, "text/html", false));
    Bench.due("HEAD of an empty file", Bench.ask("HEAD /none" + HOST + "\r\n"), "1 "
        + Bench.successHead("", OCTETS, false));
    RequestReader x = Bench.opened();
    Bench.come(x, "HEAD /" + HOST + "\n");
    x.look();
    Bench.due("GET behind HEAD", Bench.body(x, "/"), Bench.HTML);
    Bench.come(x, "HEAD /" + HOST + "\n");
    x.look();
    Bench.due("HEAD behind GET", Bench.answer(x), Bench.successHead(Bench.HTML, "text/html", false));
  }

  private static void lengths() {
    StringBuilder content = new StringBuilder();
    for (int i = 0; i < 65535 - 76; i++) {
      content.append((char) (i * 7 % 256));
    }
    for (int length : new int[] {0, 1, 9, 10, 11, 99, 100, 101, 999, 1000, 9999, 10000, 65535 - 76}) {
      String body = content.substring(0, length);
      byte[] image = Bench.image(new String[][] {{"/b", body}});
      Bench.due(length + " bytes", Bench.ask(image, "GET /b HTTP/1.0\n\n"), "2 "
          + Bench.successHead(body, OCTETS, true) + body);
    }
  }

  private static void type(String name, String type) {
    byte[] image = Bench.image(new String[][] {{name, "b"}});
    Bench.due("type of " + name, Bench.ask(image, "GET " + name + HOST + "\n"), "1 "
        + Bench.successHead("b", type, false) + "b");
  }

  private static void types() {
    String[][] ends = {{".html", "text/html"}, {".css", "text/css"}, {".js", "text/javascript"},
        {".txt", "text/plain"}, {".png", "image/png"}};
    for (String[] each : ends) {
      type("/a" + each[0], each[1]);
      type("/" + each[0], each[1]);
      type("/a.html" + each[0], each[1]);
      type("/a" + each[0] + "x", OCTETS);
      type("/a" + each[0] + "/a", OCTETS);
      type("/a" + each[0].substring(1), OCTETS);
      type("/a" + each[0].substring(0, 2), OCTETS);
      type("/a" + each[0].toUpperCase(), OCTETS);
      type("/a" + each[0].substring(0, each[0].length() - 1), OCTETS);
    }
    type("/a", OCTETS);
  }

  /** Files whose checks have zeros in front, and all digits. */
  private static void markDigits() {
    for (int i = 0; i < 300; i++) {
      String content = "content " + i;
      byte[] image = Bench.image(new String[][] {{"/b", content}});
      Bench.due("mark of " + content, Bench.ask(image, "HEAD /b" + HOST + "\n"), "1 "
          + Bench.successHead(content, OCTETS, false));
      Bench.due("match of " + content, Bench.ask(image, "GET /b" + HOST + "If-None-Match: " + Bench.mark(content)
          + "\n\n"),
          "1 HTTP/1.1 304 Not Modified\r\nETag: " + Bench.mark(content) + "\r\n\r\n");
    }
  }

  private static void takenAsGet() {
    Bench.due("a faulty request line", Bench.ask("HEAD  / HTTP/1.1\n\n"), "2 "
        + Bench.failure("400 Bad Request", true));
    String head = "HEAD /" + HOST;
    String full = head + "a".repeat(4096 - head.length());
    Bench.due("431", Bench.ask(full), "2 " + Bench.failure("431 Request Header Fields Too Large", true));
    RequestReader x = Bench.opened();
    Bench.come(x, head + "\n");
    x.look();
    Bench.come(x, full);
    x.look();
    Bench.due("431 behind HEAD", Bench.answer(x), Bench.failure("431 Request Header Fields Too Large", true));
  }

  private static void latestLength() {
    RequestReader x = Bench.opened();
    Bench.come(x, "GET /" + HOST + "\nGET /x" + HOST + "\nHEAD /x" + HOST + "\nx");
    x.look();
    Bench.due("the first", x.length(), Bench.successHead(Bench.HTML, "text/html", false).length()
        + Bench.HTML.length());
    x.look();
    Bench.due("a shorter one", x.length(), Bench.failure("404 Not Found", false).length());
    x.look();
    int length = Bench.failureHead("404 Not Found", false).length();
    Bench.due("a still shorter one", x.length(), length);
    Bench.due("look() finds none", x.look(), 0);
    Bench.due("the latest stays", x.length(), length);
    Bench.due("a refused call", x.end(-1), -1);
    Bench.due("the latest stays then", x.length(), length);
  }

  private static void noLength() {
    Bench.due("a new object", new RequestReader().length(), 0);
    RequestReader x = Bench.opened();
    Bench.due("opened", x.length(), 0);
    Bench.come(x, "GET / HTTP/1.1\n");
    Bench.due("something came", x.length(), 0);
    x.look();
    Bench.due("no head yet", x.length(), 0);
  }

  private static void bytesOfIt() {
    RequestReader x = Bench.opened(Bench.image(new String[][] {{"/b", "\u0000\u00ff\u0080\u007f"}}));
    Bench.come(x, "GET /b HTTP/1.1\nHost:\n\nGET /c HTTP/1.1\nHost:\n\n");
    x.look();
    int length = x.length();
    Bench.due("the first", x.at(0), (int) 'H');
    Bench.due("the second", x.at(1), (int) 'T');
    Bench.due("byte 0", x.at(length - 4), 0);
    Bench.due("byte 255", x.at(length - 3), 255);
    Bench.due("byte 128", x.at(length - 2), 128);
    Bench.due("byte 127, the last", x.at(length - 1), 127);
    x.look();
    Bench.due("the latest answer's", Bench.answer(x), Bench.failure("404 Not Found", false));
  }

  private static void noByte() {
    RequestReader x = Bench.opened();
    int[] edges = {0, 1, -1, Integer.MIN_VALUE, Integer.MAX_VALUE, 65536};
    for (int i : edges) {
      Bench.due("without an answer: at(" + i + ")", x.at(i), -1);
    }
    Bench.come(x, "GET /" + HOST + "\nHEAD /x" + HOST + "\n");
    x.look();
    int longer = x.length();
    Bench.due("at(length)", x.at(longer), -1);
    Bench.due("at(length + 1)", x.at(longer + 1), -1);
    Bench.due("at(-1)", x.at(-1), -1);
    Bench.due("at(MIN)", x.at(Integer.MIN_VALUE), -1);
    Bench.due("at(MAX)", x.at(Integer.MAX_VALUE), -1);
    Bench.due("at(-length)", x.at(-longer), -1);
    x.look();
    for (int i = x.length(); i <= longer; i++) {
      Bench.due("nothing of the one before: at(" + i + ")", x.at(i), -1);
    }
  }
}
