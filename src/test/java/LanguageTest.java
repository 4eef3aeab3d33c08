import java.io.IOException;
import java.lang.reflect.Constructor;
import java.lang.reflect.Field;
import java.lang.reflect.Method;
import java.lang.reflect.Modifier;
import java.nio.file.Files;
import java.nio.file.Path;
import java.util.ArrayList;
import java.util.Arrays;
import java.util.Collections;
import java.util.List;
import java.util.Set;
import java.util.TreeSet;
import java.util.regex.Matcher;
import java.util.regex.Pattern;

/** The document's face, and those rules of LANGUAGE.md that can be seen from outside or by words of the source. */
public final class LanguageTest {
  private static final String FACE = "row3 set3 copy5 drop1 feed1 catalogue0 fault0 nights1 put2 turn1 like2 undo0 card2 "
      + "drawer2 ahead3 found2 still1 mates0 rods4 tour2 fits5 asleep4 drawn3 image1 restore1 kind1 as2 ask2 trace1 "
      + "count1 status0";

  public static void main(String[] args) throws IOException {
    face();
    constants();
    classes();
    String source = Files.readString(Path.of(args.length > 0 ? args[0] : "src/main/java/DrawerCards.java"));
    words(source);
    lengths(source);
    Checks.end("LanguageTest");
  }

  private static void face() {
    List<String> want = new ArrayList<>(Arrays.asList(FACE.split(" ")));
    List<String> got = new ArrayList<>();
    for (Method m : DrawerCards.class.getDeclaredMethods()) {
      if (m.isSynthetic() || Modifier.isPrivate(m.getModifiers())) continue;
      Checks.tell(Modifier.isPublic(m.getModifiers()), m + " is neither public nor private");
      Checks.tell(m.getReturnType() == int.class, m + " answers no int");
      Checks.tell(Arrays.stream(m.getParameterTypes()).allMatch(t -> t == int.class), m + " takes other than ints");
      got.add(m.getName() + m.getParameterCount());
    }
    Collections.sort(want);
    Collections.sort(got);
    Checks.tell(want.equals(got), "the face is " + got);
    Constructor<?>[] made = DrawerCards.class.getDeclaredConstructors();
    Checks.tell(made.length == 1 && Modifier.isPublic(made[0].getModifiers()) && made[0].getParameterCount() == 0,
        "the constructor");
    Checks.tell(Modifier.isFinal(DrawerCards.class.getModifiers()), "the class is final");
  }

  private static void constants() {
    Checks.due("NONE", DrawerCards.NONE, Checks.NONE);
    Checks.due("BAD", DrawerCards.BAD, Checks.BAD);
    Checks.due("STATE", DrawerCards.STATE, Checks.STATE);
    Checks.due("FULL", DrawerCards.FULL, Checks.FULL);
    Set<String> seen = new TreeSet<>();
    for (Field f : DrawerCards.class.getDeclaredFields()) {
      if (!Modifier.isPrivate(f.getModifiers()) && !f.isSynthetic()) seen.add(f.getName());
    }
    Checks.tell(seen.toString().equals("[BAD, FULL, NONE, STATE]"), "fields of the face: " + seen);
  }

  private static void classes() {
    Set<String> shown = new TreeSet<>();
    for (Method m : DrawerCards.class.getDeclaredMethods()) {
      if (Modifier.isPublic(m.getModifiers())) shown.add(m.getName());
    }
    List<Class<?>> all = new ArrayList<>(Arrays.asList(DrawerCards.class.getDeclaredClasses()));
    for (Class<?> c : all) {
      Checks.tell(Modifier.isStatic(c.getModifiers()), c + " is not static");
      Checks.tell(!Modifier.isPublic(c.getModifiers()) && !Modifier.isProtected(c.getModifiers()), c + " is public");
    }
    all.add(DrawerCards.class);
    Checks.tell(all.size() <= 12, all.size() + " classes");
    for (Class<?> c : all) {
      int held = 0;
      for (Field f : c.getDeclaredFields()) {
        boolean fixed = !Modifier.isStatic(f.getModifiers()) || Modifier.isFinal(f.getModifiers());
        Checks.tell(fixed, f + " is static and not final");
        if (!Modifier.isStatic(f.getModifiers())) held++;
      }
      Checks.tell(held <= 20, c + " has " + held + " fields");
      for (Method m : c.getDeclaredMethods()) {
        Checks.tell(m.getParameterCount() <= 7, m + " takes too much");
        boolean own = c == DrawerCards.class && Modifier.isPublic(m.getModifiers());
        Checks.tell(own || m.isSynthetic() || !shown.contains(m.getName()), m + " bears the name of a public one");
      }
    }
  }

  private static void words(String source) {
    String bare = source.replaceAll("(?s)/\\*.*?\\*/", " ").replaceAll("//[^\n]*", " ").replaceAll("'.'", " ");
    String[] barred = {"throw", "throws", "try", "catch", "synchronized", "assert", "import", "package", "record",
      "yield", "protected", "volatile", "transient", "native", "equals", "hashCode", "toString"};
    for (String word : barred) {
      Matcher m = Pattern.compile("\\b" + word + "\\b").matcher(bare);
      Checks.tell(!m.find(), "the source has the word " + word);
    }
    for (String sign : new String[] {"->", "::", "@", "[][][]"}) {
      Checks.tell(!bare.contains(sign), "the source has the sign " + sign);
    }
    Set<String> used = new TreeSet<>();
    Matcher m = Pattern.compile("\\b[A-Z][a-z]\\w*\\.\\w+").matcher(bare);
    while (m.find()) used.add(m.group());
    used.removeAll(Set.of("Math.max", "Math.min", "Integer.bitCount", "System.arraycopy"));
    Checks.tell(used.isEmpty(), "the source uses " + used);
  }

  /** A method begins and ends at the same indentation: that of the class's own, or of those of a class inside it. */
  private static void lengths(String source) {
    Matcher m = Pattern.compile("(?m)^((?: {4}){1,2})(?! )[^\n;=]*\\([^\n;]*\\) \\{\n((?s:.*?)\n)??\\1\\}$").matcher(source);
    int methods = 0;
    while (m.find()) {
      methods++;
      long lines = m.group().lines().count();
      Checks.tell(lines <= 60, lines + " lines: " + m.group().lines().findFirst().orElse(""));
    }
    Checks.tell(methods > 100, "only " + methods + " methods are seen");
  }
}
