import java.io.IOException;
import java.lang.reflect.Constructor;
import java.lang.reflect.Field;
import java.lang.reflect.Method;
import java.lang.reflect.Modifier;
import java.nio.file.Files;
import java.nio.file.Path;
import java.util.ArrayList;
import java.util.List;
import java.util.Set;
import java.util.TreeSet;
import java.util.regex.Matcher;
import java.util.regex.Pattern;

/** The public face of the document, and the rules of LANGUAGE.md that a program can see. */
public final class FaceTest {
  private static final Set<String> FACE = Set.of(
      "public int RequestReader.feed(int,int,int,int,int)", "public int RequestReader.end(int)",
      "public int RequestReader.install()", "public int RequestReader.open()", "public int RequestReader.come()",
      "public int RequestReader.look()", "public int RequestReader.held()", "public int RequestReader.left()",
      "public int RequestReader.length()", "public int RequestReader.at(int)",
      "public boolean RequestReader.damage(int,int)", "public RequestReader()");

  public static void main(String[] args) throws IOException {
    face();
    insides();
    words();
    Bench.finish();
  }

  private static void face() {
    Class<?> face = RequestReader.class;
    Bench.due("the class", Modifier.toString(face.getModifiers()), "public final");
    Set<String> seen = new TreeSet<>();
    for (Method method : face.getDeclaredMethods()) {
      if (!Modifier.isPrivate(method.getModifiers())) {
        seen.add(method.toString());
      }
    }
    for (Constructor<?> constructor : face.getDeclaredConstructors()) {
      seen.add(constructor.toString());
    }
    Bench.due("the face", seen, new TreeSet<>(FACE));
    for (Field field : face.getDeclaredFields()) {
      Bench.due(field + " is private", Modifier.isPrivate(field.getModifiers()), true);
    }
  }

  private static void insides() {
    Set<String> names = new TreeSet<>();
    for (Method method : RequestReader.class.getMethods()) {
      names.add(method.getName());
    }
    List<Class<?>> classes = new ArrayList<>(List.of(RequestReader.class.getDeclaredClasses()));
    Bench.due("at most twelve classes", classes.size() < 12, true);
    for (Class<?> each : classes) {
      Bench.due(each + " is static", Modifier.isStatic(each.getModifiers()), true);
      Bench.due(each + " has few fields", instanceFields(each) <= 20, true);
      for (Method method : each.getDeclaredMethods()) {
        Bench.due(method + " bears a name of the face", names.contains(method.getName())
            && !method.getName().matches("values|valueOf"), false);
        Bench.due(method + " has few parameters", method.getParameterCount() <= 7, true);
      }
      for (Field field : each.getDeclaredFields()) {
        Bench.due(field + " is no state of all", Modifier.isStatic(field.getModifiers())
            && !Modifier.isFinal(field.getModifiers()), false);
      }
    }
  }

  private static long instanceFields(Class<?> each) {
    return List.of(each.getDeclaredFields()).stream().filter(field -> !Modifier.isStatic(field.getModifiers())).count();
  }

  private static void words() throws IOException {
    String source = Files.readString(Path.of("src/main/java/RequestReader.java"));
    String code = source.replaceAll("(?s)/\\*.*?\\*/", "").replaceAll("//.*", "")
        .replaceAll("'(\\\\.|[^'\\\\])'", "' '").replaceAll("\"(\\\\.|[^\"\\\\])*\"", "\"\"");
    Matcher ruledOut = Pattern.compile(
        "\\b(throw|throws|try|catch|finally|synchronized|assert|import|package|static\\s*\\{)|->|::").matcher(code);
    while (ruledOut.find()) {
      Bench.due("LANGUAGE.md", ruledOut.group(), "nothing of the kind");
    }
  }
}
