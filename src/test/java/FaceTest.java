import java.lang.reflect.Constructor;
import java.lang.reflect.Field;
import java.lang.reflect.Method;
import java.lang.reflect.Modifier;
import java.nio.file.Files;
import java.nio.file.Path;
import java.util.Set;
import java.util.TreeSet;
import java.util.regex.Matcher;
import java.util.regex.Pattern;

/** The public face, and those rules of LANGUAGE.md that can be seen from outside or in the text. */
public final class FaceTest {
  private static final Set<String> METHODS = Set.of(
      "feed(long)", "end(int)", "body()", "fault()", "drop()", "rule(int,int,int,int)",
      "span(int,int,int,int,int,int,int,boolean)", "parted(int,int)", "volume(int)", "point(int,int,int)",
      "skin(int,int)", "parts(int,int)", "part(int,int,int,int)", "slice(int,int,int)", "thin(int,int)",
      "overhang(int,int)", "both(int,int,int)", "ray(int,int,int,int,int,int,int)", "sheet(int,int,int)",
      "lay(int,int,int)", "scan(int,int,int,int,int)", "count(int)");
  private static final String[] RULED_OUT = {
    "\\bthrow\\b", "\\btry\\b", "\\bcatch\\b", "\\bsynchronized\\b", "\\bassert\\b", "->", "::", "@", "\\bimport\\b",
    "\\bpackage\\b", "\\bprotected\\b", "static \\{", "Exact\\b", "\\bSystem\\b", "\\bObject\\b"
  };

  public static void main(String[] args) throws Exception {
    face();
    constants();
    inside();
    source(Files.readString(Path.of("src/main/java/SignSolids.java")));
    Check.finish("FaceTest");
  }

  private static void face() {
    Class<?> c = SignSolids.class;
    Check.holds("public and final", Modifier.isPublic(c.getModifiers()) && Modifier.isFinal(c.getModifiers()));
    Set<String> open = new TreeSet<>(), shut = new TreeSet<>();
    for (Method m : c.getDeclaredMethods()) {
      StringBuilder name = new StringBuilder(m.getName()).append('(');
      for (Class<?> p : m.getParameterTypes()) {
        name.append(name.charAt(name.length() - 1) == '(' ? "" : ",").append(p.getName());
      }
      if (Modifier.isPrivate(m.getModifiers())) {
        shut.add(m.getName());
      } else {
        Check.holds(name + " is public, not static, and answers an int", Modifier.isPublic(m.getModifiers())
            && !Modifier.isStatic(m.getModifiers()) && m.getReturnType() == int.class);
        open.add(name.append(')').toString());
      }
    }
    Check.holds("the methods of the face: " + open, open.equals(METHODS));
    for (String name : METHODS) {
      String bare = name.substring(0, name.indexOf('('));
      Check.holds("no private method is named " + bare, !shut.contains(bare));
    }
    Constructor<?>[] made = c.getDeclaredConstructors();
    Check.holds("one public constructor", made.length == 1 && Modifier.isPublic(made[0].getModifiers()));
    Check.holds("without parameters", made[0].getParameterCount() == 0);
  }

  private static void constants() throws Exception {
    String[] names = {"BAD", "STATE", "FULL", "NONE"};
    for (int i = 0; i < names.length; i++) {
      Field f = SignSolids.class.getDeclaredField(names[i]);
      int due = Modifier.PUBLIC | Modifier.STATIC | Modifier.FINAL;
      Check.holds(names[i] + " is a public constant int", f.getModifiers() == due && f.getType() == int.class);
      Check.due(names[i], f.getInt(null), -1 - i);
    }
    Set<String> known = Set.of(names);
    for (Field f : SignSolids.class.getDeclaredFields()) {
      Check.holds(f.getName() + " is private", known.contains(f.getName()) || Modifier.isPrivate(f.getModifiers()));
    }
  }

  private static void inside() {
    Class<?>[] all = SignSolids.class.getDeclaredClasses();
    Check.holds("at most twelve classes", all.length < 12);
    for (Class<?> c : all) {
      Check.holds(c + " is static", Modifier.isStatic(c.getModifiers()));
      Check.holds(c + " is not public", !Modifier.isPublic(c.getModifiers()));
      int fields = 0;
      for (Field f : c.getDeclaredFields()) {
        boolean isStatic = Modifier.isStatic(f.getModifiers());
        Check.holds(f + " is final if static", !isStatic || Modifier.isFinal(f.getModifiers()));
        fields += isStatic ? 0 : 1;
      }
      Check.holds(c + " has at most twenty fields", fields <= 20);
      for (Method m : c.getDeclaredMethods()) {
        Check.holds(m + " has at most seven parameters", m.getParameterCount() <= 7);
      }
    }
  }

  private static void source(String text) {
    String code = text.replaceAll("//.*", "").replaceAll("(?s)/\\*.*?\\*/", "");
    for (String word : RULED_OUT) {
      Matcher found = Pattern.compile(word).matcher(code);
      Check.holds("no " + word + " in the program", !found.find());
    }
    int from = -1;
    String[] lines = text.split("\n");
    for (int i = 0; i < lines.length; i++) {
      if (lines[i].matches(" {2,4}[a-zA-Z].*\\) \\{") && !lines[i].matches(" *(if|for|while|switch|else)\\b.*")) {
        from = i;
      } else if (from >= 0 && lines[i].matches(" {2,4}\\}")) {
        Check.holds("the method at line " + (from + 1) + " is short", i - from <= 60);
        from = -1;
      }
    }
  }
}
