import java.util.Random;

/** Rule 7 of LANGUAGE.md: no call throws, for any arguments in any state; answers stay within their bounds. */
public final class AnyCallsTest {
  private static final int RUNS = 4000;
  private static final int CALLS = 512;
  private static final int[] NUMBERS = {0, 1, -1, 19, 20, 21, 255, 256, 4096, 65535, 65536, Integer.MIN_VALUE,
      Integer.MAX_VALUE};
  private static final String[] TEXTS = {"GET / HTTP/1.1\nHost:\n\n", "GET /a.txt HTTP/1.0\r\n\r\n", "\r\n", "\n\n",
      "%", "Content-Length: 65536\n\n",
      "Connection:\n\n", "If-None-Match:\n\n", ":\n\n", " ", "\r", "? HTTP/1.1\n", "HEAD /%"};

  private final Random random;
  private final RequestReader reader = new RequestReader();

  private AnyCallsTest(int seed) {
    random = new Random(seed);
  }

  public static void main(String[] args) {
    for (int seed = 0; seed < RUNS; seed++) {
      new AnyCallsTest(seed).run();
    }
    Bench.finish();
  }

  private void run() {
    if (random.nextInt(4) > 0) {
      Bench.fill(reader, Bench.image(Bench.FILES));
      reader.install();
      reader.open();
    }
    for (int i = 0; i < CALLS / 4; i++) {
      call(random.nextInt(40));
      within("held()", reader.held(), 0, 4096);
      within("left()", reader.left(), 0, 65536);
      within("at()", reader.at(number()), -1, 255);
    }
  }

  private void call(int kind) {
    switch (kind) {
      case 0 -> within("install()", reader.install(), -1, 65535);
      case 1 -> within("open()", reader.open(), -1, 64);
      case 2, 3 -> reader.damage(number(), number());
      case 4, 5, 6 -> within("end()", reader.end(number()), -1, 65540);
      case 7, 8, 9 -> within("feed()", reader.feed(number(), number(), number(), number(), number()), -1, 65540);
      case 10, 11, 12, 13, 14 -> within("come()", reader.come(), -1, 4096);
      case 15, 16, 17 -> within("length()", reader.length(), 0, 65535 + 512);
      case 18, 19, 20, 21, 22, 23 -> {
        reader.end(0);
        Bench.fill(reader, Bench.bytes(TEXTS[random.nextInt(TEXTS.length)]));
        within("come()", reader.come(), -1, 4096);
      }
      default -> within("look()", reader.look(), -1, 2);
    }
  }

  private int number() {
    return switch (random.nextInt(3)) {
      case 0 -> NUMBERS[random.nextInt(NUMBERS.length)];
      case 1 -> random.nextInt(300);
      default -> random.nextInt();
    };
  }

  private static void within(String what, int got, int least, int most) {
    if (got < least || got > most) {
      Bench.due(what, got, least + " .. " + most);
    }
  }
}
