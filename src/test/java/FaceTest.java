import java.lang.reflect.Constructor;
import java.lang.reflect.Field;
import java.lang.reflect.Member;
import java.lang.reflect.Method;
import java.lang.reflect.Modifier;
import java.util.Set;
import java.util.TreeSet;

/** The public face: the document's constants, constructor and methods, and no other member seen from outside. */
public final class FaceTest {
    private static final String[] FACE = {
        "public static final int NONE", "public static final int OPEN", "public CodeRules()",
        "boolean unit(int)", "int read()", "boolean fact(int,int)", "int clearFacts()", "int code()",
        "int taken()", "int asks()", "boolean general(int)", "int mirror(int,boolean)", "int map(int,int,int)",
        "int near(int)", "int edits(int)", "boolean needs(int,int)", "boolean paper(int,int)",
        "int lacks(int,int)", "int permit()", "boolean allows(int,int,int)", "int check(int,int)",
        "int put(int)", "int history(int,int)"};

    public static void main(String[] args) {
        Set<String> want = new TreeSet<>();
        for (String member : FACE) {
            want.add(member.startsWith("public") ? member : "public " + member);
        }
        Set<String> got = seenMembers();
        Due due = new Due("FaceTest");
        due.is("the class is public and final", CodeRules.class.getModifiers(), Modifier.PUBLIC | Modifier.FINAL);
        if (!got.equals(want)) {
            System.out.println("FaceTest: the face is " + got);
        }
        due.is("the face is the document's", got.equals(want), true);
        due.end();
    }

    /** What the compiler adds by itself is not of the program's face. */
    private static boolean isSeen(Member member) {
        return !Modifier.isPrivate(member.getModifiers()) && !member.isSynthetic();
    }

    private static Set<String> seenMembers() {
        Set<String> seen = new TreeSet<>();
        for (Field field : CodeRules.class.getDeclaredFields()) {
            if (isSeen(field)) {
                seen.add(Modifier.toString(field.getModifiers()) + " " + field.getType() + " " + field.getName());
            }
        }
        for (Constructor<?> made : CodeRules.class.getDeclaredConstructors()) {
            if (isSeen(made)) {
                seen.add(made.toString());
            }
        }
        for (Method method : CodeRules.class.getDeclaredMethods()) {
            if (isSeen(method)) {
                seen.add(method.toString().replace("CodeRules.", ""));
            }
        }
        return seen;
    }
}
