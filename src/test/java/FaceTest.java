import java.lang.reflect.Constructor;
import java.lang.reflect.Field;
import java.lang.reflect.Method;
import java.lang.reflect.Modifier;
import java.util.ArrayList;
import java.util.Arrays;
import java.util.List;
import java.util.TreeSet;

/** The public face: just the document's members, with their parameters, answers and exceptions. */
public final class FaceTest {
    private static final String[] FACE = {
        "void setEdge(int,int,int,boolean) IllegalArgumentException",
        "void setWidth(int,int,int,int,boolean) IllegalArgumentException",
        "void setRunt(int,int,int) IllegalArgumentException",
        "void setSequence(int,int,int) IllegalArgumentException",
        "void setLengths(int,int) IllegalArgumentException IllegalStateException",
        "int setHoldoff(int) IllegalArgumentException",
        "int arm()",
        "boolean disarm()",
        "boolean isArmed()",
        "boolean isCatching()",
        "int push(int,int,int) IllegalArgumentException",
        "int ramp(int,int,int,int,int) IllegalArgumentException",
        "int samples()",
        "int fired()",
        "int records()",
        "int trigger(int) IndexOutOfBoundsException",
        "int length(int) IndexOutOfBoundsException",
        "int value(int,int,int) IndexOutOfBoundsException IllegalArgumentException",
        "int low(int,int,int,int) IllegalArgumentException IndexOutOfBoundsException",
        "int high(int,int,int,int) IllegalArgumentException IndexOutOfBoundsException",
        "int mean(int,int,int,int) IllegalArgumentException IndexOutOfBoundsException",
        "int rescan(int) IndexOutOfBoundsException",
        "void setMask(int,int,int,int) IllegalArgumentException",
        "void clearMask()",
        "int failures()",
        "int firstOffence() NoSuchElementException",
        "int putChannel(int) IllegalArgumentException IllegalStateException",
        "int putConstant(int) IllegalArgumentException IllegalStateException",
        "int apply(int) IllegalArgumentException IllegalStateException",
        "int combine(int) IllegalArgumentException IllegalStateException",
        "int clearTrace()",
        "int trace(int,int) IndexOutOfBoundsException IllegalStateException",
        "int least(int,int) IndexOutOfBoundsException IllegalArgumentException IllegalStateException",
        "int greatest(int,int) IndexOutOfBoundsException IllegalArgumentException IllegalStateException",
        "double average(int,int) IndexOutOfBoundsException IllegalArgumentException IllegalStateException",
        "int crossings(int,int,int) IndexOutOfBoundsException IllegalArgumentException IllegalStateException",
        "double period(int,int,int) IndexOutOfBoundsException IllegalArgumentException IllegalStateException"
            + " NoSuchElementException",
        "int riseTime(int,int,int,int) IndexOutOfBoundsException IllegalArgumentException IllegalStateException"
            + " NoSuchElementException",
    };

    public static void main(String[] args) {
        List<String> publicOnes = new ArrayList<>();
        TreeSet<String> publicNames = new TreeSet<>();
        for (Method method : Triggerwright.class.getDeclaredMethods()) {
            if (method.isSynthetic()) {
                continue;
            }
            if (Modifier.isPublic(method.getModifiers())) {
                publicOnes.add(written(method));
                publicNames.add(method.getName());
            } else {
                Check.due(method + " is private", Modifier.isPrivate(method.getModifiers()), true);
            }
        }
        Check.due("the face has no public method twice", publicOnes.size(), FACE.length);
        for (String due : FACE) {
            Check.due("the face has " + due, publicOnes.contains(due), true);
        }
        checkClass();
        checkNames(Triggerwright.class, publicNames);
        for (Class<?> inside : Triggerwright.class.getDeclaredClasses()) {
            Check.due(inside + " is static", Modifier.isStatic(inside.getModifiers()), true);
            Check.due(inside + " is hidden", Modifier.isPublic(inside.getModifiers()), false);
            checkNames(inside, publicNames);
        }
        Check.finish("FaceTest");
    }

    private static String written(Method method) {
        StringBuilder text = new StringBuilder();
        text.append(method.getReturnType().getSimpleName()).append(' ').append(method.getName()).append('(');
        String comma = "";
        for (Class<?> parameter : method.getParameterTypes()) {
            text.append(comma).append(parameter.getSimpleName());
            comma = ",";
        }
        text.append(')');
        for (Class<?> thrown : method.getExceptionTypes()) {
            text.append(' ').append(thrown.getSimpleName());
        }
        return text.toString();
    }

    private static void checkClass() {
        int modifiers = Triggerwright.class.getModifiers();
        Check.due("the class is public", Modifier.isPublic(modifiers), true);
        Check.due("the class is final", Modifier.isFinal(modifiers), true);
        Constructor<?>[] constructors = Triggerwright.class.getDeclaredConstructors();
        Check.due("there is one constructor", constructors.length, 1);
        Check.due("the constructor is public", Modifier.isPublic(constructors[0].getModifiers()), true);
        Check.due("the constructor has no parameters", constructors[0].getParameterCount(), 0);
        Check.due("the constructor declares no exceptions", constructors[0].getExceptionTypes().length, 0);
        for (Field field : Triggerwright.class.getDeclaredFields()) {
            Check.due(field + " is private", Modifier.isPrivate(field.getModifiers()), true);
        }
        Check.due("no interface is implemented", Arrays.asList(Triggerwright.class.getInterfaces()).size(), 0);
    }

    /** No private method bears the name of a public one. */
    private static void checkNames(Class<?> type, TreeSet<String> publicNames) {
        for (Method method : type.getDeclaredMethods()) {
            boolean faceItself = type == Triggerwright.class && Modifier.isPublic(method.getModifiers());
            if (!faceItself && !method.isSynthetic()) {
                Check.due(method + " bears a public name", publicNames.contains(method.getName()), false);
            }
        }
    }
}
