import java.lang.reflect.Constructor;
import java.lang.reflect.Field;
import java.lang.reflect.Method;
import java.lang.reflect.Modifier;
import java.util.Arrays;
import java.util.HashSet;
import java.util.Set;

/** The face is the document's, and no member but it can be seen; no private method bears a name of the face. */
public final class FaceTest {
    private static final String FACE = "int sign(int) boolean end(int) int bill() int terms(int,int) "
        + "int measures(int,int,int) int strikes(int,int) int stores(int,int) int change(int,int,int,int) "
        + "int alters(int,int) int setsOff(int,int) int disputes(int,int) int decides(int,int,int) int handover(int) "
        + "int closes(int) int pays(int,int) int due(int) int grants(int) int indexes(int,int) long amount(int,int) "
        + "int item(int,int) int priced(int) int held(int,int) int sum() int lines(int) int recovered() int limited() "
        + "int reaches(long) int worst() int clears(int) int paces(int,int) int enough(int,int) int shifts(int,int,int) "
        + "int were(int,int) int dearest() int ends(int) int leads(int) int above(int) int like(int,int) "
        + "int would(int,int) int keeps(int) int overdue() int needed() int rises(int,int) int account() int count(int) "
        + "long row(int)";

    public static void main(String[] args) {
        Set<String> due = new HashSet<>(Arrays.asList(FACE.split(" (?=int |long |boolean )")));
        Set<String> names = new HashSet<>();
        Set<String> found = new HashSet<>();
        for (Method method : WorksDesk.class.getDeclaredMethods()) {
            if (Modifier.isPublic(method.getModifiers())) {
                found.add(signature(method));
                names.add(method.getName());
            }
        }
        Check.is("methods of the document", due.size(), 46);
        Check.is("the face is the document's: " + found, found.equals(due), true);
        members(WorksDesk.class, names);
        fewFields(WorksDesk.class);
        Check.is("the class is final", Modifier.isFinal(WorksDesk.class.getModifiers()), true);
        Check.is("classes inside", WorksDesk.class.getDeclaredClasses().length <= 11, true);
        for (Class<?> inside : WorksDesk.class.getDeclaredClasses()) {
            Check.is(inside + " is static", Modifier.isStatic(inside.getModifiers()), true);
            insideNames(inside, names);
            fewFields(inside);
        }
        Check.end("FaceTest");
    }

    private static String signature(Method method) {
        StringBuilder text = new StringBuilder();
        text.append(method.getReturnType()).append(' ').append(method.getName()).append('(');
        for (Class<?> type : method.getParameterTypes()) {
            text.append(text.charAt(text.length() - 1) == '(' ? "" : ",").append(type);
        }
        return text.append(')').toString();
    }

    private static void members(Class<?> desk, Set<String> names) {
        for (Method method : desk.getDeclaredMethods()) {
            if (!Modifier.isPublic(method.getModifiers())) {
                Check.is(method + " is private", Modifier.isPrivate(method.getModifiers()), true);
                Check.is(method + " has a name of its own", names.contains(method.getName()), false);
            }
        }
        for (Field field : desk.getDeclaredFields()) {
            boolean constant = field.getName().equals("NONE");
            Check.is(field + " is private", Modifier.isPrivate(field.getModifiers()), !constant);
            Check.is(field + " is final", Modifier.isFinal(field.getModifiers()), true);
        }
        for (Constructor<?> made : desk.getDeclaredConstructors()) {
            Check.is(made + " takes nothing", made.getParameterCount(), 0);
            Check.is(made + " is public", Modifier.isPublic(made.getModifiers()), true);
        }
    }

    private static void fewFields(Class<?> one) {
        long many = Arrays.stream(one.getDeclaredFields()).filter(f -> !Modifier.isStatic(f.getModifiers())).count();
        Check.is(one + " has " + many + " fields", many <= 20, true);
    }

    private static void insideNames(Class<?> inside, Set<String> names) {
        for (Method method : inside.getDeclaredMethods()) {
            Check.is(method + " has a name of its own", names.contains(method.getName()), false);
            Check.is(method + " takes seven at most", method.getParameterCount() <= 7, true);
        }
        for (Field field : inside.getDeclaredFields()) {
            boolean fixed = !Modifier.isStatic(field.getModifiers()) || Modifier.isFinal(field.getModifiers());
            Check.is(field + " is no state of all", fixed, true);
        }
    }
}
