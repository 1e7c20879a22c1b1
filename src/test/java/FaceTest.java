import java.lang.reflect.Constructor;
import java.lang.reflect.Field;
import java.lang.reflect.Member;
import java.lang.reflect.Method;
import java.lang.reflect.Modifier;
import java.util.ArrayList;
import java.util.List;

/** The public face: what the document shows, and nothing that is seen beside it. */
public final class FaceTest {
    private static final List<String> FACE = List.of(
            "boolean end(int)",
            "boolean feed(int,int,int,int,int)",
            "boolean fill(int,int,int)",
            "boolean isBusy(int)",
            "boolean set(int,int,boolean)",
            "int block(int,int,int)",
            "int card()",
            "int letter(int,int,int)",
            "int operate(int,int,int,int)",
            "int unit(int)",
            "int word(int)",
            "long pass(int)");

    public static void main(String[] args) {
        int modifiers = UnitRoom.class.getModifiers();
        Check.due("public final", Modifier.isPublic(modifiers) && Modifier.isFinal(modifiers), true);
        Check.due("methods", seenMethods().toString(), FACE.toString());
        Check.due("fields", seenFields().toString(), "[NONE]");
        Constructor<?>[] constructors = UnitRoom.class.getDeclaredConstructors();
        Check.due("constructors", constructors.length, 1);
        Check.due("its parameters", constructors[0].getParameterCount(), 0);
        Check.due("it is public", Modifier.isPublic(constructors[0].getModifiers()), true);
        Check.finish();
    }

    private static List<String> seenMethods() {
        List<String> seen = new ArrayList<>();
        for (Method method : UnitRoom.class.getDeclaredMethods()) {
            if (isSeen(method)) {
                String text = method.toGenericString();
                seen.add(text.replace("public ", "").replace("UnitRoom.", "").replace(", ", ","));
            }
        }
        seen.sort(null);
        return seen;
    }

    private static List<String> seenFields() {
        List<String> seen = new ArrayList<>();
        for (Field field : UnitRoom.class.getDeclaredFields()) {
            if (isSeen(field)) {
                seen.add(field.getName());
            }
        }
        return seen;
    }

    private static boolean isSeen(Member member) {
        return !Modifier.isPrivate(member.getModifiers()) && !member.isSynthetic();
    }
}
