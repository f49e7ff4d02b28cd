import java.nio.ByteBuffer;
import java.util.ArrayList;
import java.util.Arrays;
import java.util.LinkedHashMap;
import java.util.List;
import java.util.Map;
import java.util.Random;
import java.util.regex.Matcher;
import java.util.regex.Pattern;

/**
 * All promises at once: long runs of mixed calls, the same each time, against a second reading of
 * the document that is written with texts and patterns instead of rows of bytes.
 */
public final class ModelTest {
  private static final int RUNS = 3000;
  private static final int CALLS = 512;

  private final Random random;
  private final RequestReader reader = new RequestReader();
  private final Model model = new Model();
  private int calls = 0;

  private ModelTest(int seed) {
    random = new Random(seed);
  }

  public static void main(String[] args) {
    for (int seed = 0; seed < RUNS; seed++) {
      new ModelTest(seed).run(seed);
    }
    Bench.finish();
  }

  private void run(int seed) {
    String where = "run " + seed;
    while (calls < CALLS - 120) {
      switch (random.nextInt(20)) {
        case 0 -> putDamage(where);
        case 1 -> check(where + " open", reader.open(), model.open());
        case 2 -> oddCall(where);
        case 3, 4, 5, 6, 7, 8, 9 -> putRequest(where);
        default -> putLook(where);
      }
      if (model.files == null) {
        putImage(where);
        check(where + " open", reader.open(), model.open());
      }
      check(where + " held", reader.held(), model.stream.length());
      check(where + " left", reader.left(), model.left);
      check(where + " length", reader.length(), model.answer.length());
    }
    for (int i = 0; calls < CALLS; i++) {
      check(where + " at " + i, reader.at(i), i < model.answer.length() ? (int) model.answer.charAt(i) : -1);
    }
  }

  private void check(String what, Object got, Object want) {
    calls++;
    Bench.due(what + " (call " + calls + ")", got, want);
  }

  private String pick(String... choices) {
    return choices[random.nextInt(choices.length)];
  }

  private void put(String where, String text) {
    ByteBuffer bytes = ByteBuffer.allocate((text.length() + 19) / 20 * 20).put(Bench.bytes(text)).rewind();
    int before = model.tray.length();
    while (bytes.hasRemaining()) {
      int[] five = {bytes.getInt(), bytes.getInt(), bytes.getInt(), bytes.getInt(), bytes.getInt()};
      check(where + " feed", reader.feed(five[0], five[1], five[2], five[3], five[4]), model.feed(five));
    }
    int size = before + text.length();
    check(where + " end", reader.end(size), model.end(size));
  }

  private void putImage(String where) {
    check(where + " end 0", reader.end(0), model.end(0));
    List<String[]> files = new ArrayList<>();
    for (int i = random.nextInt(3); i >= 0; i--) {
      files.add(new String[] {pick("/index.html", "/a.css", "/a%b", "/d/x.js"), pick("", "abc", "0\r\n\u00ff")});
    }
    byte[] image = Bench.image(files.toArray(new String[0][]));
    if (random.nextInt(6) == 0) {
      image[random.nextInt(image.length)] = (byte) random.nextInt();
      image = random.nextBoolean() && image[4] == 0 && image[5] > 0 && image[5] < 3 ? Bench.seal(image) : image;
    }
    put(where, new String(image, java.nio.charset.StandardCharsets.ISO_8859_1));
    check(where + " install", reader.install(), model.install());
  }

  private void putDamage(String where) {
    int size = model.image.length();
    int place = random.nextInt(4) == 0 ? random.nextInt(size + 3) - 1 : size - random.nextInt(8);
    int value = random.nextInt();
    if (place >= 0 && place < size && random.nextBoolean()) {
      value = model.image.charAt(place) + 256;
    }
    check(where + " damage", reader.damage(place, value), model.damage(place, value));
  }

  private void oddCall(String where) {
    int n = random.nextBoolean() ? 0 : random.nextInt(60) - 5;
    check(where + " odd end", reader.end(n), model.end(n));
    if (random.nextInt(20) == 0) {
      check(where + " odd install", reader.install(), model.install());
    }
  }

  private void putLook(String where) {
    check(where + " look", reader.look(), model.look());
    for (int i = 0; i < 8 && model.answer.length() > 0; i++) {
      int place = i == 0 ? model.answer.length() - 1 : random.nextInt(model.answer.length());
      check(where + " at " + place, reader.at(place), (int) model.answer.charAt(place));
    }
  }

  private void putRequest(String where) {
    String text = random.nextInt(4) == 0 ? oddRequest() : rightRequest();
    if (random.nextInt(12) == 0) {
      int place = random.nextInt(text.length());
      text = text.substring(0, place) + (char) random.nextInt(256) + text.substring(place + 1);
    }
    put(where, text);
    check(where + " come", reader.come(), model.come());
  }

  private String rightRequest() {
    int body = random.nextInt(3) == 0 ? random.nextInt(30) : 0;
    return pick("", "", "\n", "\r\n") + pick("GET", "GET", "GET", "HEAD", "PUT") + " "
        + pick("/", "/", "/index.html", "/a.css", "/a.css?x%", "/%61.css", "/a%25b", "/d/x.js", "/d%2Fx.js", "/x",
            "/%1")
        + pick(" HTTP/1.1\nHost: a\n", " HTTP/1.1\r\nHOST:\r\n", " HTTP/1.0\n", " HTTP/1.0\r\nhost:b\r\n")
        + pick("", "", "Connection: close\n", "Connection: keep-alive\r\n", "connection:a,Keep-Alive\n")
        + pick("", "", "If-None-Match: *\n", "If-None-Match: \"352441c2\"\r\n", "if-none-match:\"00000000\" \n")
        + (body > 0 ? "Content-Length: " + body + "\n" : "") + "\r\n" + "\n".repeat(body);
  }

  private String oddRequest() {
    StringBuilder text = new StringBuilder(pick("", "\r"));
    String lineEnd = pick("\n", "\r\n");
    text.append(pick("GET", "HEAD", "PUT", "get")).append(pick(" ", " ", "  ")).append(pick("/", "/", "/%", "/a%b"));
    text.append(pick(" HTTP/1.1", " HTTP/1.0", " HTTP/1.3")).append(lineEnd);
    for (int i = random.nextInt(4); i >= 0; i--) {
      text.append(pick("Host: a", "host:", "HOST:b ", "Connection: close", "Content-Length: " + random.nextInt(30),
          "content-length:70000", "Content-Length: x", "If-None-Match: *", "Transfer-Encoding: x", "x", "n : v",
          "n: \u007f", "n:\t\u00e4 b")).append(lineEnd);
    }
    return text.append(pick(lineEnd, lineEnd, lineEnd, "")).append(pick("", "", "abc", "\n0123456789")).toString();
  }

  /** The second reading. */
  private static final class Model {
    static final Pattern LINE = Pattern.compile("([A-Z]{1,16}) (/[!-~]*) HTTP/1\\.([01])");
    static final Pattern FIELD = Pattern.compile("([A-Za-z0-9\\-_.!#$%&'*+^`|~]+):[ \t]*([\t -~\\x80-\\xff]*?)[ \t]*");
    static final Map<String, String> TYPES = Map.of("html", "text/html", "css", "text/css", "js", "text/javascript",
        "txt", "text/plain", "png", "image/png");
    static final Map<Integer, String> PHRASES = Map.of(400, "Bad Request", 404, "Not Found", 405, "Method Not Allowed",
        413, "Content Too Large", 431, "Request Header Fields Too Large", 500, "Internal Server Error",
        501, "Not Implemented", 304, "Not Modified", 200, "OK");

    String tray = "";
    String image = "";
    String stream = "";
    String answer = "";
    Map<String, int[]> files = null;
    int left = 0;

    String method;
    boolean newer;
    Map<String, List<String>> fields;
    String path;

    int feed(int[] five) {
      ByteBuffer bytes = ByteBuffer.allocate(20);
      Arrays.stream(five).forEach(bytes::putInt);
      tray += new String(bytes.array(), java.nio.charset.StandardCharsets.ISO_8859_1);
      return tray.length();
    }

    int end(int n) {
      if (n < 0 || n > tray.length()) {
        return -1;
      }
      tray = tray.substring(0, n);
      return n;
    }

    int install() {
      image = tray;
      tray = "";
      files = null;
      stream = "";
      left = 0;
      answer = "";
      return image.length();
    }

    boolean damage(int place, int value) {
      if (place < 0 || place >= image.length()) {
        return false;
      }
      image = image.substring(0, place) + (char) (value & 255) + image.substring(place + 1);
      return true;
    }

    int come() {
      if (files == null || stream.length() + tray.length() > 4096) {
        return -1;
      }
      stream += tray;
      tray = "";
      return stream.length();
    }

    int open() {
      byte[] bytes = Bench.bytes(image);
      ByteBuffer numbers = ByteBuffer.wrap(bytes);
      if (bytes.length < 12 || !image.startsWith("STOR") || numbers.getShort(6) != 0) {
        return -1;
      }
      int count = numbers.getShort(4) & 0xFFFF;
      int size = 8 + 64 * count;
      if (count > 64 || bytes.length < size + 4 || numbers.getInt(size) != Bench.crc(bytes, size)) {
        return -1;
      }
      Map<String, int[]> found = new LinkedHashMap<>();
      for (int at = 8; at < size; at += 64) {
        String name = image.substring(at, at + 48);
        long place = Integer.toUnsignedLong(numbers.getInt(at + 48));
        long length = Integer.toUnsignedLong(numbers.getInt(at + 52));
        if (!name.matches("/[!-~]*\0+") || place > bytes.length || length > bytes.length - place
            || numbers.getInt(at + 60) != 0
            || found.containsKey(name.replace("\0", ""))) {
          return -1;
        }
        found.put(name.replace("\0", ""), new int[] {(int) place, (int) length, numbers.getInt(at + 56)});
      }
      files = found;
      return count;
    }

    int look() {
      if (files == null) {
        return -1;
      }
      int taken = Math.min(left, stream.length());
      left -= taken;
      stream = stream.substring(taken).replaceFirst("\\A(\r?\n)+", "");
      Matcher empty = Pattern.compile("\n\r?\n").matcher(stream);
      boolean found = empty.find();
      if (!found && stream.length() < 4096) {
        return 0;
      }
      String head = found ? stream.substring(0, empty.start() + 1) : null;
      stream = found ? stream.substring(empty.end()) : "";
      method = "GET";
      newer = false;
      fields = new LinkedHashMap<>();
      int number = found ? judge(head) : 431;
      List<String> lengths = fields.getOrDefault("content-length", List.of());
      if (!List.of(400, 413, 431, 501).contains(number) && !lengths.isEmpty()) {
        left = Integer.parseInt(lengths.get(0));
      }
      boolean closes = List.of(400, 413, 431, 500, 501).contains(number) || !persistent();
      write(number, closes);
      return closes ? 2 : 1;
    }

    int judge(String head) {
      String[] lines = head.split("\r?\n", -1);
      Matcher line = LINE.matcher(lines[0]);
      if (!line.matches()) {
        return 400;
      }
      method = line.group(1);
      newer = line.group(3).equals("1");
      for (int i = 1; i < lines.length - 1; i++) {
        Matcher field = FIELD.matcher(lines[i]);
        if (!field.matches()) {
          return 400;
        }
        fields.computeIfAbsent(field.group(1).toLowerCase(), name -> new ArrayList<>()).add(field.group(2));
      }
      int hosts = fields.getOrDefault("host", List.of()).size();
      if (hosts > 1 || newer && hosts == 0) {
        return 400;
      }
      if (fields.containsKey("transfer-encoding")) {
        return 501;
      }
      List<String> lengths = fields.getOrDefault("content-length", List.of());
      if (lengths.size() > 1 || lengths.size() == 1 && !lengths.get(0).matches("[0-9]{1,9}")) {
        return 400;
      }
      if (lengths.size() == 1 && Integer.parseInt(lengths.get(0)) > 65536) {
        return 413;
      }
      return method.equals("GET") || method.equals("HEAD") ? judgeFile(line.group(2)) : 405;
    }

    int judgeFile(String target) {
      path = target.replaceFirst("\\?.*", "");
      if (!path.matches("([^%]|%(2[1-9A-Fa-f]|[3-6][0-9A-Fa-f]|7[0-9A-Ea-e]))*")) {
        return 400;
      }
      path = Pattern.compile("%(..)").matcher(path).replaceAll(
          hit -> Matcher.quoteReplacement(String.valueOf((char) Integer.parseInt(hit.group(1), 16))));
      path += path.endsWith("/") ? "index.html" : "";
      int[] file = files.get(path);
      if (file == null) {
        return 404;
      }
      if (Bench.crc(Bench.bytes(content()), file[1]) != file[2]) {
        return 500;
      }
      List<String> matches = fields.getOrDefault("if-none-match", List.of());
      return matches.equals(List.of("*")) || matches.equals(List.of(mark())) ? 304 : 200;
    }

    String content() {
      int[] file = files.get(path);
      return image.substring(file[0], file[0] + file[1]);
    }

    String mark() {
      return String.format("\"%08x\"", files.get(path)[2]);
    }

    boolean persistent() {
      List<String> words = Arrays.asList(String.join(",", fields.getOrDefault("connection", List.of()))
          .toLowerCase().split("[, \t]"));
      return !words.contains("close") && (newer || words.contains("keep-alive"));
    }

    void write(int number, boolean closes) {
      String body = number == 304 ? "" : number == 200 ? content() : number + " " + PHRASES.get(number) + "\n";
      String end = path == null ? "" : path.substring(path.lastIndexOf('.') + 1);
      String type = number == 200 ? TYPES.getOrDefault(end, "application/octet-stream") : "text/plain";
      answer = "HTTP/1.1 " + number + " " + PHRASES.get(number) + "\r\n"
          + (number == 304 ? "" : "Content-Length: " + body.length() + "\r\nContent-Type: " + type + "\r\n")
          + (number == 200 || number == 304 ? "ETag: " + mark() + "\r\n" : "")
          + (number == 405 ? "Allow: GET, HEAD\r\n" : "")
          + (closes ? "Connection: close\r\n" : "") + "\r\n" + (method.equals("HEAD") ? "" : body);
    }
  }
}
