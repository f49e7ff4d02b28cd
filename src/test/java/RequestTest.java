/** Promise 7, look: the request line, the fields, the order of the errors, names and marks. */
public final class RequestTest {
  private static final String FIELD_MARKS = "-_.!#$%&'*+^`|~";

  public static void main(String[] args) {
    requestLine();
    fieldNames();
    fieldValues();
    hosts();
    encodings();
    lengths();
    methods();
    order();
    Bench.finish();
  }

  private static void line(String line, String due) {
    Bench.due(line, Bench.number(line + "\r\nHost: a\r\n\r\n"), due);
  }

  private static void requestLine() {
    line("GET / HTTP/1.1", "1 200");
    line("GET / HTTP/1.0", "2 200");
    String[] faulty = {"GET / HTTP/1.2", "GET / HTTP/2.0", "GET / http/1.1", "GET / HTTP/1.1 ", "GET  / HTTP/1.1",
        "GET /  HTTP/1.1", " GET / HTTP/1.1", "GET /", "GET", "GET ", "GET  ", " ", "  ", "GET / ", "GET HTTP/1.1",
        "get / HTTP/1.1", "GeT / HTTP/1.1", "G3T / HTTP/1.1", " / HTTP/1.1", "/ HTTP/1.1", "GET a HTTP/1.1",
        "GET http://a/ HTTP/1.1", "GET * HTTP/1.1", "GET\t/ HTTP/1.1", "GET /\t HTTP/1.1", "GET /\u007f HTTP/1.1",
        "GET /\u0080 HTTP/1.1", "GET /\u0000 HTTP/1.1", "GET / HTTP/1.1x", "GET / HTTP/1.", "GET / x HTTP/1.1",
        "GET / HTTP/1.1\r", "GET /\r HTTP/1.1", "GET / HTTP/1.1 x", "GET@ / HTTP/1.1", "GET[ / HTTP/1.1"};
    for (String each : faulty) {
      line(each, "2 400");
    }
    line("A / HTTP/1.1", "1 405");
    line("ABCDEFGHIJKLMNOZ / HTTP/1.1", "1 405");
    line("ABCDEFGHIJKLMNOPQ / HTTP/1.1", "2 400");
    line("GET /! HTTP/1.1", "1 404");
    line("GET /~ HTTP/1.1", "1 404");
    Bench.due("a faulty line is taken as GET", Bench.ask("HEAD  / HTTP/1.1\n\n"),
        "2 " + Bench.failure("400 Bad Request", true));
    Bench.due("a faulty field is not", Bench.ask("HEAD / HTTP/1.1\nx\n\n"),
        "2 " + Bench.failureHead("400 Bad Request", true));
  }

  private static void field(String field, String due) {
    Bench.due(field, Bench.number("GET / HTTP/1.1\nHost: a\n" + field + "\n\n"), due);
    Bench.due(field, Bench.number("GET / HTTP/1.1\r\n" + field + "\r\nHost: a\r\n\r\n"), due);
  }

  private static void fieldNames() {
    field("AZaz09" + FIELD_MARKS + ":", "1 200");
    for (int code = 0; code < 256; code++) {
      boolean right = Character.isLetterOrDigit(code) && code < 128 || FIELD_MARKS.indexOf(code) >= 0;
      if (code != ':' && code != '\n') {
        field((char) code + ":v", right ? "1 200" : "2 400");
        field("n" + (char) code + "n:v", right ? "1 200" : "2 400");
      }
    }
    field(":v", "2 400");
    field("name", "2 400");
    field("name :v", "2 400");
    field("name\t:v", "2 400");
    field(" name:v", "2 400");
    field("na me:v", "2 400");
    field("::", "2 400");
    field("n::", "1 200");
  }

  private static void fieldValues() {
    field("n:", "1 200");
    field("n: \t ", "1 200");
    field("n:\t a b\tc:d \t", "1 200");
    for (int code = 0; code < 256; code++) {
      boolean right = code == 9 || code >= 32 && code != 127;
      if (code != '\n') {
        field("n:a" + (char) code + "b", right ? "1 200" : "2 400");
      }
    }
    field("n:a\r\r", "2 400");
    field("n:a\n b", "2 400");
  }

  private static void head(String start, String fields, String due) {
    Bench.due(start + " " + fields, Bench.number(start + "\n" + fields + "\n"), due);
  }

  private static void hosts() {
    head("GET / HTTP/1.1", "", "2 400");
    head("GET / HTTP/1.1", "Host:\n", "1 200");
    head("GET / HTTP/1.1", "hOSt: a\n", "1 200");
    head("GET / HTTP/1.1", "Host: a\nHOST: a\n", "2 400");
    head("GET / HTTP/1.1", "Hos: a\nHostt: b\nXost: c\nHosx: d\n", "2 400");
    head("GET / HTTP/1.0", "", "2 200");
    head("GET / HTTP/1.0", "Host: a\n", "2 200");
    head("GET / HTTP/1.0", "Host: a\nhost: b\n", "2 400");
  }

  private static void encodings() {
    head("GET / HTTP/1.1", "Host:\nTransfer-Encoding: chunked\n", "2 501");
    head("GET / HTTP/1.0", "transfer-ENCODING:\n", "2 501");
    head("GET / HTTP/1.0", "Transfer-Encodin:\nXransfer-Encoding:\n", "2 200");
  }

  private static void lengths() {
    String[] faulty = {"", " ", "a", "+1", "-1", "1 2", "1,1", "0x1", "1234567890", "0000000000", "1.0", "/", ":"};
    for (String each : faulty) {
      head("GET / HTTP/1.0", "Content-Length:" + each + "\n", "2 400");
    }
    head("GET / HTTP/1.0", "Content-Length: 000000000\n", "2 200");
    head("GET / HTTP/1.0", "Content-Length: 999999999\n", "2 413");
    head("GET / HTTP/1.0", "CONTENT-LENGTH: 65537\n", "2 413");
    head("GET / HTTP/1.0", "content-length: 65536\n", "2 200");
    head("GET / HTTP/1.0", "Content-Length: 1\nContent-Length: 1\n", "2 400");
    head("GET / HTTP/1.0", "Content-Length: 99999\nContent-Length: 1\n", "2 400");
    head("GET / HTTP/1.0", "Content-Length: x\nContent-Length: 1\n", "2 400");
  }

  private static void methods() {
    for (String each : new String[] {"POST", "GETT", "HEADS", "GE", "HEA", "OPTIONS", "H"}) {
      head(each + " / HTTP/1.1", "Host:\n", "1 405");
    }
    head("HEAD / HTTP/1.1", "Host:\n", "1 200");
  }

  /** Each request has all the faults that stand behind the one that is due. */
  private static void order() {
    String start = "POST /%zz HTTP/1.1";
    head("POST /%zz HTTP/1.1", "x\nTransfer-Encoding:\nContent-Length: 99999\n", "2 400");
    head(start, "Transfer-Encoding:\nContent-Length: 99999\n", "2 400");
    head(start, "Host:\nTransfer-Encoding:\nContent-Length: x\n", "2 501");
    head(start, "Host:\nContent-Length: 99999\nContent-Length: 99999\n", "2 400");
    head(start, "Host:\nContent-Length: 99999\n", "2 413");
    head(start, "Host:\nContent-Length: 9\n", "1 405");
    head("GET /no%zz HTTP/1.1", "Host:\n", "2 400");
    head("GET /no HTTP/1.1", "Host:\nIf-None-Match: *\n", "1 404");
  }
}
