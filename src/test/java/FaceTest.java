import java.lang.reflect.Constructor;
import java.lang.reflect.Field;
import java.lang.reflect.Method;
import java.lang.reflect.Modifier;
import java.util.Arrays;
import java.util.Set;
import java.util.TreeSet;

/** The public face is the document's, no more and no less (rule 1 of LANGUAGE.md). */
public final class FaceTest {
    private static final String[] FACE = {
        "int feed(int,int,int,int,int)", "int field(int)", "int fault()", "int where()", "int cell(int,int,int)",
        "int gallery(int,int)", "int drum(int)", "int dug()", "int far(int,int,int,int)", "int placeIn(int,int)",
        "int dugIn(int)", "int endsIn(int)", "int breaksIn(int,int)", "int firstBreak()", "int whoBreaks()",
        "int hears(int,int)", "int heardIn(int)", "int nights(int,int,int,int)", "int quiet(int,int,int,int)",
        "int toWall(int)", "int within(int,int,int)", "int deaf()", "int cut(int)", "int blast(int,int,int)",
        "int bestBlast(int)", "int fits()", "int fitAt(int)", "int fitWay(int)", "int beAt(int,int,int)",
        "int likely(int)", "int oneMore(int)", "int oneMoreLeaves(int)", "int meets(int,int)",
        "int digs(int,boolean,boolean,boolean)", "int rests(int)", "int rest(int)", "long odds(int,boolean)",
        "long mean(boolean)", "int drawn(int)", "int night()", "int charge(int,int,int)", "int move(int,int,int)",
        "boolean undo()", "int image()", "boolean back(int)", "int led(int)", "int size(int)", "int trouble()",
    };

    public static void main(String[] args) {
        Due due = new Due("FaceTest");
        due.is("NONE", CounterMine.NONE, -1);
        due.is("public and final", CounterMine.class.getModifiers(), Modifier.PUBLIC | Modifier.FINAL);
        Set<String> open = new TreeSet<>();
        Set<String> closed = new TreeSet<>();
        for (Method method : CounterMine.class.getDeclaredMethods()) {
            if (Modifier.isPublic(method.getModifiers())) {
                open.add(told(method));
                due.is("static " + method, Modifier.isStatic(method.getModifiers()), false);
            } else {
                due.is("private " + method, Modifier.isPrivate(method.getModifiers()), true);
                closed.add(method.getName());
            }
        }
        due.is("the methods are the face's: " + open, open.equals(new TreeSet<>(Arrays.asList(FACE))), true);
        for (Class<?> inside : CounterMine.class.getDeclaredClasses()) {
            due.is("static " + inside, Modifier.isStatic(inside.getModifiers()), true);
            for (Method method : inside.getDeclaredMethods()) {
                closed.add(method.getName());
            }
        }
        for (String method : open) {
            String name = method.substring(method.indexOf(' ') + 1, method.indexOf('('));
            due.is("a method inside bears the name " + name, closed.contains(name), false);
        }
        for (Field field : CounterMine.class.getDeclaredFields()) {
            boolean isNone = field.getName().equals("NONE");
            due.is("private " + field, Modifier.isPrivate(field.getModifiers()), !isNone);
        }
        Constructor<?>[] constructors = CounterMine.class.getDeclaredConstructors();
        due.is("constructors", constructors.length, 1);
        due.is("parameters", constructors[0].getParameterCount(), 0);
        due.end();
    }

    private static String told(Method method) {
        StringBuilder text = new StringBuilder();
        text.append(method.getReturnType().getName()).append(' ').append(method.getName()).append('(');
        for (Class<?> type : method.getParameterTypes()) {
            text.append(text.charAt(text.length() - 1) == '(' ? "" : ",").append(type.getName());
        }
        return text.append(')').toString();
    }
}
