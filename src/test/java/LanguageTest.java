import java.lang.reflect.Constructor;
import java.lang.reflect.Field;
import java.lang.reflect.Method;
import java.lang.reflect.Modifier;
import java.nio.file.Files;
import java.nio.file.Path;
import java.util.Set;
import java.util.TreeSet;

/** Rules of LANGUAGE.md that can be seen from outside or in the text of the class. */
public final class LanguageTest {
  static final Due D = new Due("LanguageTest");
  static final String FACE = "feed(int,int,int,int,int)int end(int)boolean valley()int fault(int)int has(int)int letter(int,int,int)int"
      + " thing(int,int)int person(int,int)int points(int,int)int lies(int,int)int way(int,int)int later(int,int,int)int forgets(int)int"
      + " breaks(int)int keep(int,int,int,int)int best(int,int,int)int shovel(int,int,int)int route(int,int,int)int whose()int"
      + " against(int,int,int)int say(int,int)int take(int,int)boolean go(int,int)boolean nights(int)int days(int)int undo()boolean"
      + " seed(int)boolean ask(int)long image()int octet(int)int on()boolean status(int)int";

  public static void main(String[] args) throws Exception {
    face();
    Class<?>[] inside = RisingSnow.class.getDeclaredClasses();
    D.due("11 classes", inside.length + 1 <= 12, true);
    for (Class<?> c : inside) {
      D.due("1 " + c + " is static", Modifier.isStatic(c.getModifiers()), true);
      D.due("1 " + c + " is not public", Modifier.isPublic(c.getModifiers()) || Modifier.isProtected(c.getModifiers()), false);
      members(c);
    }
    members(RisingSnow.class);
    text(Files.readString(Path.of(args.length > 0 ? args[0] : ".", "src/main/java/RisingSnow.java")));
    D.close();
  }

  static void face() {
    Set<String> seen = new TreeSet<>();
    for (Method m : RisingSnow.class.getDeclaredMethods()) {
      if (Modifier.isPublic(m.getModifiers())) {
        StringBuilder b = new StringBuilder(m.getName()).append('(');
        for (int i = 0; i < m.getParameterCount(); i++) {
          b.append(i > 0 ? "," : "").append(m.getParameterTypes()[i]);
        }
        seen.add(b.append(')').append(m.getReturnType()).toString());
      } else {
        D.due("1 private " + m, Modifier.isPrivate(m.getModifiers()), true);
        D.due("1 no private method bears the name of a public one: " + m, (" " + FACE).contains(" " + m.getName() + "("), false);
      }
    }
    D.due("1 the face: " + seen, seen.equals(new TreeSet<>(Set.of(FACE.split(" ")))), true);
    Constructor<?>[] made = RisingSnow.class.getDeclaredConstructors();
    D.due("1 one constructor", made.length == 1 && Modifier.isPublic(made[0].getModifiers()) && made[0].getParameterCount() == 0, true);
    for (Field f : RisingSnow.class.getDeclaredFields()) {
      boolean told = f.getName().equals("NONE") || f.getName().equals("NOTHING");
      D.due("1 " + f, told ? Modifier.isPublic(f.getModifiers()) : Modifier.isPrivate(f.getModifiers()), true);
    }
    D.due("1 final", Modifier.isFinal(RisingSnow.class.getModifiers()), true);
  }

  static void members(Class<?> c) {
    int fields = 0;
    for (Field f : c.getDeclaredFields()) {
      fields += Modifier.isStatic(f.getModifiers()) ? 0 : 1;
      D.due("5 a static field is final: " + f, !Modifier.isStatic(f.getModifiers()) || Modifier.isFinal(f.getModifiers()), true);
    }
    D.due("11 fields of " + c, fields <= 20, true);
    for (Method m : c.getDeclaredMethods()) {
      D.due("11 parameters of " + m, m.getParameterCount() <= 7, true);
    }
  }

  static void text(String source) {
    String bare = source.replaceAll("(?s)/\\*.*?\\*/", "").replaceAll("//[^\n]*", "").replaceAll("\"[^\"\n]*\"", "\"\"");
    for (String word : "throw throws try catch synchronized assert import package native volatile transient".split(" ")) {
      D.due("6 no " + word, bare.matches("(?s).*\\b" + word + "\\b.*"), false);
    }
    D.due("2 no lambda or method reference", bare.contains("->") || bare.contains("::"), false);
    for (int i = 0; i < source.length(); i++) {
      if (source.charAt(i) > 126) {
        D.due("3 signs to 127 alone, at " + i, source.charAt(i), 0);
      }
    }
    int started = -1;
    String[] lines = source.split("\n");
    for (int i = 0; i < lines.length; i++) {
      boolean head = lines[i].matches("( {4}| {8})\\S.*\\) \\{");
      started = head ? i : started;
      if (started >= 0 && lines[i].equals(lines[started].replaceAll("\\S.*", "") + "}")) {
        D.due("11 lines of " + lines[started].trim(), i - started <= 60, true);
        started = -1;
      }
    }
  }
}
