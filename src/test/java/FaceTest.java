import java.lang.reflect.Member;
import java.lang.reflect.Method;
import java.lang.reflect.Modifier;
import java.util.Map;
import java.util.TreeMap;

/** The public face: the document's members, with the exceptions that they name, and no other ones. */
public final class FaceTest {
    private static final String INDEX = "IndexOutOfBoundsException";
    private static final String ARGUMENT = "IllegalArgumentException";
    private static final String[][] METHODS = {
        {"type(long,int)", "boolean"}, {"cut(int)", "boolean"}, {"read()", "int"}, {"find()", "int"}, {"write()", "int"},
        {"signs(int)", "int", ARGUMENT}, {"out(int)", "int"}, {"nodes()", "int"}, {"node(int,int)", "int", INDEX},
        {"mark(int,int)", "int", INDEX}, {"remark(int,int)", "int", INDEX}, {"here()", "int"}, {"go(int)", "void", INDEX},
        {"man(int)", "int", INDEX}, {"move(int)", "int"}, {"add(int)", "int", ARGUMENT + " UnsupportedOperationException"},
        {"addMark(int)", "int", ARGUMENT + " IllegalStateException"}, {"say()", "int", ARGUMENT},
        {"lead()", "boolean", "IllegalStateException"}, {"end(int)", "void", ARGUMENT}, {"result()", "int"}, {"tags()", "int"},
        {"tag(int,boolean,int)", "int", INDEX}};

    public static void main(String[] args) {
        Map<String, String> due = new TreeMap<>();
        for (String[] method : METHODS) {
            due.put(method[0], method[1] + " " + (method.length > 2 ? method[2] : ""));
        }
        Map<String, String> got = new TreeMap<>();
        for (Method method : MoveTexts.class.getDeclaredMethods()) {
            if (Modifier.isPrivate(method.getModifiers())) {
                for (String[] named : METHODS) {
                    Check.due("a private " + method.getName(), named[0].startsWith(method.getName() + "("), false);
                }
            } else {
                got.put(method.getName() + names(method.getParameterTypes(), ",", "(", ")"),
                    method.getReturnType() + " " + names(method.getExceptionTypes(), " ", "", ""));
                Check.due(method + " is public", Modifier.isPublic(method.getModifiers()), true);
            }
        }
        Check.due("methods", got.toString(), due.toString());
        Check.due("constructors", MoveTexts.class.getDeclaredConstructors().length, 1);
        Check.due("constructors of the face", MoveTexts.class.getConstructors().length, 1);
        for (Member field : MoveTexts.class.getDeclaredFields()) {
            Check.due(field + " is private", Modifier.isPrivate(field.getModifiers()), !field.getName().equals("NONE"));
        }
        for (Class<?> inside : MoveTexts.class.getDeclaredClasses()) {
            Check.due(inside + " is static", Modifier.isStatic(inside.getModifiers()), true);
            Check.due(inside + " is private", Modifier.isPrivate(inside.getModifiers()), true);
        }
        Check.due("final", Modifier.isFinal(MoveTexts.class.getModifiers()), true);
        Check.close("FaceTest");
    }

    private static String names(Class<?>[] types, String between, String before, String behind) {
        StringBuilder all = new StringBuilder(before);
        for (int i = 0; i < types.length; i++) {
            all.append(i == 0 ? "" : between).append(types[i].getSimpleName());
        }
        return all.append(behind).toString();
    }
}
