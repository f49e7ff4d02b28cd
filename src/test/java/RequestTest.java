/** Promise 7, look: the request line and the fields of term 2, a test for each sentence. */
public final class RequestTest {
  private static final String FIELD_MARKS = "-_.!#$%&'*+^`|~";
  private static final String FAULTY = "2 400";

  public static void main(String[] args) {
    Bench.says("request line: METHOD blank TARGET blank VERSION", RequestTest::rightLine);
    Bench.says("request line: just two blanks", RequestTest::blanks);
    Bench.says("request line: METHOD 1 to 16 letters", RequestTest::methodLength);
    Bench.says("request line: METHOD letters A .. Z", RequestTest::methodLetters);
    Bench.says("request line: TARGET begins with /", RequestTest::targetBegins);
    Bench.says("request line: TARGET has codes 33 .. 126", RequestTest::targetCodes);
    Bench.says("request line: VERSION is HTTP/1.0 or HTTP/1.1", RequestTest::versions);
    Bench.says("request line: else 400", RequestTest::faultyLine);
    Bench.says("fields: each other line is NAME : VALUE", RequestTest::fieldForm);
    Bench.says("fields: NAME 1 or more", RequestTest::nameLength);
    Bench.says("fields: NAME of letters, digits and marks", RequestTest::nameCodes);
    Bench.says("fields: NAME at once before the colon", RequestTest::colon);
    Bench.says("fields: VALUE without blanks and tabs at its ends", RequestTest::valueEnds);
    Bench.says("fields: VALUE with codes 9, 32 .. 126 and 128 .. 255", RequestTest::valueCodes);
    Bench.says("fields: VALUE may be empty", RequestTest::emptyValue);
    Bench.says("fields: else 400", RequestTest::faultyField);
    Bench.says("fields: great and small letters of names are the same", RequestTest::letters);
    Bench.finish();
  }

  private static void line(String line, String due) {
    Bench.due(line, Bench.number(line + "\r\nHost: a\r\n\r\n"), due);
    Bench.due(line, Bench.number(line + "\nHost: a\n\n"), due);
  }

  private static void field(String field, String due) {
    Bench.due(field, Bench.number("GET / HTTP/1.1\nHost: a\n" + field + "\n\n"), due);
    Bench.due(field, Bench.number("GET / HTTP/1.1\r\n" + field + "\r\nHost: a\r\n\r\n"), due);
  }

  private static void rightLine() {
    line("GET / HTTP/1.1", "1 200");
    line("HEAD /a.txt HTTP/1.0", "2 200");
    for (String part : new String[] {"GET", "GET ", "GET /", "GET / ", "/ HTTP/1.1", "HTTP/1.1", "GET HTTP/1.1",
        "GET/ HTTP/1.1", "GET /HTTP/1.1", "GET/HTTP/1.1", "x"}) {
      line(part, FAULTY);
    }
    Bench.due("one line and no field", Bench.number("GET / HTTP/1.0\n\n"), "2 200");
  }

  private static void blanks() {
    for (String each : new String[] {" ", "  ", "   ", " GET / HTTP/1.1", "GET  / HTTP/1.1", "GET /  HTTP/1.1",
        "GET / HTTP/1.1 ", "GET / x HTTP/1.1", "GET / HTTP/1.1 x", " / HTTP/1.1", "GET  HTTP/1.1", "GET  ",
        "GET\t/ HTTP/1.1", "GET /\tHTTP/1.1", "GET / HTTP/1.1\t"}) {
      line(each, FAULTY);
    }
  }

  private static void methodLength() {
    for (int length = 0; length <= 40; length++) {
      line("A".repeat(length) + " / HTTP/1.1", length >= 1 && length <= 16 ? "1 405" : FAULTY);
    }
  }

  private static void methodLetters() {
    for (int code = 0; code < 256; code++) {
      if (code != '\n') {
        boolean right = code >= 'A' && code <= 'Z';
        line((char) code + " / HTTP/1.1", right ? "1 405" : FAULTY);
        line("GET" + (char) code + " / HTTP/1.1", right ? "1 405" : FAULTY);
      }
    }
    line("get / HTTP/1.1", FAULTY);
    line("Get / HTTP/1.1", FAULTY);
  }

  private static void targetBegins() {
    for (String each : new String[] {"a", "a/", "*", "http://a/", ".", "0", "?", "%2F", "%2Findex.html", "\\", ""}) {
      line("GET " + each + " HTTP/1.1", FAULTY);
    }
    line("GET // HTTP/1.1", "1 404");
  }

  private static void targetCodes() {
    for (int code = 0; code < 256; code++) {
      if (code != '\n' && code != '%') {
        boolean right = code >= 33 && code <= 126;
        line("GET /no" + (char) code + " HTTP/1.1", right ? "1 404" : FAULTY);
        line("GET /no" + (char) code + "no HTTP/1.1", right ? "1 404" : FAULTY);
        line("GET /?" + (char) code + " HTTP/1.1", right ? "1 200" : FAULTY);
      }
    }
  }

  private static void versions() {
    line("GET / HTTP/1.0", "2 200");
    line("GET / HTTP/1.1", "1 200");
    for (String each : new String[] {"HTTP/1.2", "HTTP/1./", "HTTP/0.1", "HTTP/2.0", "HTTP/1.", "HTTP/1.10",
        "HTTP/1.1x", "HTTP/11", "HTTP/1,1", "http/1.1", "Http/1.1", "HTTP 1.1", "HTTQ/1.1", "XTTP/1.0", "HTTP/1",
        "H", ""}) {
      line("GET / " + each, FAULTY);
    }
  }

  private static void faultyLine() {
    Bench.due("all of 400, as for GET", Bench.ask("HEAD  / HTTP/1.1\nHost:\n\n"),
        "2 " + Bench.failure("400 Bad Request", true));
    Bench.due("with a wrong version", Bench.ask("HEAD / HTTP/1.2\nHost:\n\n"), "2 "
        + Bench.failure("400 Bad Request", true));
    Bench.due("with a wrong target", Bench.ask("HEAD a HTTP/1.1\nHost:\n\n"), "2 "
        + Bench.failure("400 Bad Request", true));
    Bench.due("before all others", Bench.number("PUT x HTTP/1.1\nHost:\nTransfer-Encoding: a\n\n"), FAULTY);
    RequestReader x = Bench.opened();
    Bench.come(x, "HEAD / HTTP/1.0\n\nHEAD  /\n\n");
    x.look();
    x.look();
    Bench.due("nothing of the request before", Bench.answer(x), Bench.failure("400 Bad Request", true));
  }

  private static void fieldForm() {
    field("name: value", "1 200");
    field("n:v", "1 200");
    field("n:v:w::", "1 200");
    for (String each : new String[] {"name", "name value", "n", " ", "\t", "-"}) {
      field(each, FAULTY);
    }
    Bench.due("a line that goes on", Bench.number("GET / HTTP/1.1\nHost:\nn: a\n b\n\n"), FAULTY);
    Bench.due("a line that goes on like a field", Bench.number("GET / HTTP/1.1\nHost:\nn: a\n\tb: c\n\n"), FAULTY);
  }

  private static void nameLength() {
    field(":", FAULTY);
    field(":v", FAULTY);
    field("::", FAULTY);
    field(" :v", FAULTY);
    field("n:", "1 200");
    field("n".repeat(2000) + ":", "1 200");
  }

  private static void nameCodes() {
    field("AZaz09" + FIELD_MARKS + ":", "1 200");
    for (int code = 0; code < 256; code++) {
      boolean letter = code >= 'a' && code <= 'z' || code >= 'A' && code <= 'Z';
      boolean right = letter || code >= '0' && code <= '9' || FIELD_MARKS.indexOf(code) >= 0;
      if (code != ':' && code != '\n') {
        field((char) code + ":v", right ? "1 200" : FAULTY);
        field("n" + (char) code + "n:v", right ? "1 200" : FAULTY);
        field("n" + (char) code + ":v", right ? "1 200" : FAULTY);
      }
    }
  }

  private static void colon() {
    for (String each : new String[] {"name :v", "name\t:v", "name  : v", " name:v", "\tname:v", "na me:v"}) {
      field(each, FAULTY);
    }
    Bench.due("a host with a blank", Bench.number("GET / HTTP/1.1\nHost : a\n\n"), FAULTY);
  }

  private static void valueEnds() {
    for (String each : new String[] {"7", " 7", "7 ", "\t7", "7\t", " \t 7\t \t"}) {
      RequestReader x = Bench.opened();
      Bench.due("a length of '" + each + "'",
          Bench.number(x, "GET / HTTP/1.1\nHost:\nContent-Length:" + each + "\r\n\r\n"), "1 200");
      Bench.due("left() of '" + each + "'", x.left(), 7);
    }
    Bench.due("a blank within", Bench.number("GET / HTTP/1.1\nHost:\nContent-Length: 7 7\n\n"), FAULTY);
    Bench.due("a tab within", Bench.number("GET / HTTP/1.1\nHost:\nContent-Length: 7\t7\n\n"), FAULTY);
  }

  private static void valueCodes() {
    for (int code = 0; code < 256; code++) {
      boolean right = code == 9 || code >= 32 && code <= 126 || code >= 128;
      if (code != '\n') {
        field("n:a" + (char) code + "b", right ? "1 200" : FAULTY);
        field("n:" + (char) code + "b", right ? "1 200" : FAULTY);
      }
      if (code != '\n' && code != '\r') {
        field("n:a" + (char) code, right ? "1 200" : FAULTY);
      }
    }
    field("n:a\r\r", FAULTY);
  }

  private static void emptyValue() {
    field("n:", "1 200");
    field("n: ", "1 200");
    field("n:\t \t", "1 200");
    Bench.due("an empty host", Bench.number("GET / HTTP/1.1\nHost:\n\n"), "1 200");
  }

  private static void faultyField() {
    Bench.due("all of 400", Bench.ask("GET / HTTP/1.1\nHost:\nx\n\n"), "2 " + Bench.failure("400 Bad Request", true));
    Bench.due("all of 400 for HEAD", Bench.ask("HEAD / HTTP/1.1\nx\n\n"), "2 "
        + Bench.failureHead("400 Bad Request", true));
    Bench.due("before all others", Bench.number("PUT / HTTP/1.1\nHost:\nTransfer-Encoding: a\nx\n\n"), FAULTY);
    Bench.due("in the first field", Bench.number("GET / HTTP/1.1\nx\nHost:\n\n"), FAULTY);
    Bench.due("in the last field", Bench.number("GET / HTTP/1.1\nHost:\na:b\nx\n\n"), FAULTY);
    RequestReader x = Bench.opened();
    Bench.come(x, "GET / HTTP/1.1\nx\n\nGET / HTTP/1.1\nHost:\n\n");
    x.look();
    Bench.due("the next is another", x.look(), 1);
  }

  private static void letters() {
    for (String host : new String[] {"Host", "host", "HOST", "hOSt"}) {
      Bench.due(host, Bench.number("GET / HTTP/1.1\n" + host + ":\n\n"), "1 200");
    }
    for (String each : new String[] {"Ho", "Hos", "Hostt", "Xost", "Hosx", "H-st"}) {
      Bench.due(each, Bench.number("GET / HTTP/1.1\n" + each + ":\n\n"), FAULTY);
    }
    field("TRANSFER-ENCODING: a", "2 501");
    field("transfer-encoding: a", "2 501");
    field("CONTENT-LENGTH: 70000", "2 413");
    field("content-length: 70000", "2 413");
    field("IF-NONE-MATCH: *", "1 304");
    field("if-none-match: *", "1 304");
    field("CONNECTION: close", "2 200");
    field("connection: close", "2 200");
    for (String each : new String[] {"content_length: 70000", "transferencoding: a", "if-none-matc: *",
        "connectio: close"}) {
      field(each, "1 200");
    }
  }
}
