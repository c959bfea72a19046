import java.lang.reflect.Constructor;
import java.lang.reflect.Field;
import java.lang.reflect.Method;
import java.lang.reflect.Modifier;
import java.util.Set;
import java.util.TreeSet;

/** The public face of the document: all of it, and nothing else that is not private. */
final class FaceTest {
  private static final Set<String> FACE = Set.of(
      "public static final int PoolDice.NONE",
      "public PoolDice()",
      "public void PoolDice.init()",
      "public boolean PoolDice.event(int,int,int)",
      "public int PoolDice.tick(int)",
      "public int PoolDice.request(int)",
      "public int PoolDice.out(int)",
      "public int PoolDice.save()",
      "public int PoolDice.load()",
      "public void PoolDice.crash(int)",
      "public int PoolDice.byteOf(int,int)",
      "public boolean PoolDice.spoil(int,int)",
      "public int PoolDice.about(int)");

  private FaceTest() {}

  public static void main(String[] args) {
    Set<String> seen = membersInSight();
    for (String member : FACE) {
      Check.due("the class has " + member, seen.contains(member), true);
    }
    for (String member : seen) {
      Check.due("the document has " + member, FACE.contains(member), true);
    }
    int modifiers = PoolDice.class.getModifiers();
    Check.due("public", Modifier.isPublic(modifiers), true);
    Check.due("final", Modifier.isFinal(modifiers), true);
    Check.due("NONE", PoolDice.NONE, -1);
    Check.end();
  }

  private static Set<String> membersInSight() {
    Set<String> seen = new TreeSet<>();
    for (Field field : PoolDice.class.getDeclaredFields()) {
      note(seen, field.getModifiers(), field.toString());
    }
    for (Constructor<?> constructor : PoolDice.class.getDeclaredConstructors()) {
      note(seen, constructor.getModifiers(), constructor.toString());
    }
    for (Method method : PoolDice.class.getDeclaredMethods()) {
      note(seen, method.getModifiers(), method.toString());
    }
    return seen;
  }

  private static void note(Set<String> seen, int modifiers, String text) {
    if (!Modifier.isPrivate(modifiers)) {
      seen.add(text);
    }
  }
}
