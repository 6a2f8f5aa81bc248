import java.lang.reflect.Constructor;
import java.lang.reflect.Field;
import java.lang.reflect.Method;
import java.lang.reflect.Modifier;
import java.util.Set;
import java.util.TreeSet;

/**
 * The public face is the document's, to the last word, nothing else can be seen, and objects share
 * no state: what stands outside them are constants.
 */
public final class FaceTest {
    private static final Set<String> METHODS = Set.of(
            "public void TurnedDiscs.begin()",
            "public void TurnedDiscs.set(long,long,int) throws java.lang.IllegalArgumentException",
            "public long TurnedDiscs.discs(int) throws java.lang.IllegalArgumentException",
            "public int TurnedDiscs.player()",
            "public long TurnedDiscs.moves()",
            "public long TurnedDiscs.turns(int) throws java.lang.IllegalArgumentException",
            "public boolean TurnedDiscs.over()",
            "public int TurnedDiscs.play(int) throws java.lang.IllegalArgumentException,java.lang.IllegalStateException",
            "public int TurnedDiscs.back() throws java.util.NoSuchElementException",
            "public int TurnedDiscs.made()",
            "public int TurnedDiscs.difference()",
            "public long TurnedDiscs.count(int) throws java.lang.IllegalArgumentException",
            "public int TurnedDiscs.outcome() throws java.lang.IllegalStateException",
            "public int TurnedDiscs.best() throws java.lang.IllegalStateException",
            "public int TurnedDiscs.finish() throws java.lang.IllegalStateException",
            "public int TurnedDiscs.border(int) throws java.lang.IllegalArgumentException",
            "public long TurnedDiscs.safe(int) throws java.lang.IllegalArgumentException");
    private static final Set<String> FIELDS = Set.of(
            "public static final int TurnedDiscs.PASS",
            "public static final int TurnedDiscs.OVER");
    private static final Set<String> CONSTRUCTORS = Set.of("public TurnedDiscs()");

    public static void main(String[] args) {
        Set<String> methods = new TreeSet<>();
        Set<String> publicNames = new TreeSet<>();
        for (Method m : TurnedDiscs.class.getDeclaredMethods()) {
            if (!Modifier.isPrivate(m.getModifiers())) {
                methods.add(m.toString());
                publicNames.add(m.getName());
            }
        }
        Checks.due("the methods", methods.toString(), new TreeSet<>(METHODS).toString());
        for (Method m : TurnedDiscs.class.getDeclaredMethods()) {
            boolean shared = Modifier.isPrivate(m.getModifiers()) && publicNames.contains(m.getName());
            Checks.due("a private method with a public one's name: " + m.getName(), shared, false);
        }
        Set<String> fields = new TreeSet<>();
        for (Field f : TurnedDiscs.class.getDeclaredFields()) {
            if (!Modifier.isPrivate(f.getModifiers())) {
                fields.add(f.toString());
            }
        }
        for (Field f : TurnedDiscs.class.getDeclaredFields()) {
            if (Modifier.isStatic(f.getModifiers())) {
                boolean constant = Modifier.isFinal(f.getModifiers()) && f.getType().isPrimitive();
                Checks.due("a constant: " + f.getName(), constant, true);
            }
        }
        Checks.due("the constants", fields.toString(), new TreeSet<>(FIELDS).toString());
        Set<String> constructors = new TreeSet<>();
        for (Constructor<?> c : TurnedDiscs.class.getDeclaredConstructors()) {
            constructors.add(c.toString());
        }
        Checks.due("the constructors", constructors.toString(), CONSTRUCTORS.toString());
        Checks.due("the class", Modifier.toString(TurnedDiscs.class.getModifiers()), "public final");
        Checks.due("PASS", TurnedDiscs.PASS, 64);
        Checks.due("OVER", TurnedDiscs.OVER, 65);
        Checks.end();
    }
}
