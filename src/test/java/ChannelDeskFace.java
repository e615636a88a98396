import java.lang.reflect.Constructor;
import java.lang.reflect.Field;
import java.lang.reflect.Method;
import java.lang.reflect.Modifier;
import java.util.Arrays;
import java.util.Set;
import java.util.TreeSet;

/** The class has the document's face and nothing else that can be seen from outside. */
public final class ChannelDeskFace {
    private static final Set<String> FACE = new TreeSet<>(Arrays.asList(
            "int make(int)",
            "int send(int,int,int)",
            "int receive(int,int)",
            "int add(int,int,int,int)",
            "int choose(int,int,boolean)",
            "int close(int)",
            "int state(int)",
            "int got(int)",
            "int last(int)",
            "int waiting(int,int,int)",
            "int channel(int,int)",
            "int count(int)",
            "int clear()"));

    private static int wrong = 0;

    public static void main(String[] args) {
        Class<?> desk = ChannelDesk.class;
        due("the class is public and final", desk.getModifiers() == (Modifier.PUBLIC | Modifier.FINAL));
        dueMethods(desk);
        Constructor<?>[] makers = desk.getDeclaredConstructors();
        due("one public constructor without parameters", makers.length == 1
                && makers[0].getParameterCount() == 0 && Modifier.isPublic(makers[0].getModifiers()));
        for (Field field : desk.getDeclaredFields()) {
            due(field.getName() + " is private", Modifier.isPrivate(field.getModifiers()));
        }
        for (Class<?> inside : desk.getDeclaredClasses()) {
            due(inside.getName() + " is static, and not public",
                    Modifier.isStatic(inside.getModifiers()) && !Modifier.isPublic(inside.getModifiers()));
        }
        System.out.println(wrong == 0 ? "the face is as due" : wrong + " things are not as due");
        if (wrong != 0) {
            System.exit(1);
        }
    }

    private static void dueMethods(Class<?> desk) {
        Set<String> seen = new TreeSet<>();
        Set<String> names = new TreeSet<>();
        for (Method method : desk.getDeclaredMethods()) {
            if (!Modifier.isPrivate(method.getModifiers())) {
                seen.add(textOf(method));
                names.add(method.getName());
            }
        }
        due("the methods are " + FACE + ", not " + seen, seen.equals(FACE));
        for (Method method : desk.getDeclaredMethods()) {
            due(method.getName() + " is the name of a private method only",
                    !Modifier.isPrivate(method.getModifiers()) || !names.contains(method.getName()));
        }
    }

    private static String textOf(Method method) {
        StringBuilder text = new StringBuilder();
        text.append(method.getReturnType().getName()).append(' ').append(method.getName()).append('(');
        String between = "";
        for (Class<?> type : method.getParameterTypes()) {
            text.append(between).append(type.getName());
            between = ",";
        }
        return text.append(')').toString();
    }

    private static void due(String what, boolean holds) {
        if (!holds) {
            wrong++;
            System.out.println("not as due: " + what);
        }
    }
}
