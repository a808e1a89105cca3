import java.lang.reflect.Member;
import java.lang.reflect.Method;
import java.lang.reflect.Modifier;
import java.util.ArrayList;
import java.util.Arrays;
import java.util.List;
import java.util.TreeSet;

/** The public face: what the document lists, and nothing else. */
final class FaceTest {
    private static final String[] FACE = {
        "int appendInput(int,int,int,int,int)", "boolean truncateInput(int)", "int loadPools()", "int errorCode()",
        "int errorOffset()", "int count(int)", "int pool(int,int)", "int member(int,int)", "int memberAt(int,int)",
        "int demand(int,int)", "int planned(int,int)", "int measure(int)", "int forecast(int)", "int wanted(int)",
        "double meanError(int)", "int nextDropped(int)", "int coolLeft(int,boolean)", "long served(int)",
        "long missed(int)", "long cost(int)", "float missedShare(int)", "double used(int)", "int peak(int)",
        "int decisions(int,int)", "int event(int,int)", "int run(int)", "int push(int,int)",
        "boolean protect(int,boolean)", "int grow(int,int)", "int drop(int)", "boolean pause(int,boolean)",
        "int setPolicy(int,int,int)", "int setTarget(int,int)", "int setCool(int,int,int)", "int setBounds(int,int,int)",
        "int sizeIn(int,int)", "long missedIn(int,int)", "long costIn(int,int)", "int missesIn(int,int)",
        "int bestPolicy(int,int)", "int bestTarget(int,int)", "int bestPeriod(int)", "int needed(int,int)",
        "int transfer(int,int)", "int setLoad(int,int,int)", "int longestMiss(int)", "int headroom(int)",
        "int busiest()", "int changesIn(int,int)", "int settlesIn(int,int)", "int bestCool(int,int)",
        "double meanAge(int)", "int dropCold(int)", "int hurry(int)", "int greatestIn(int,int)",
        "long errorsWith(int,int,int)", "int median(int)", "int demandsWithin(int,int,int)", "int eldest()",
        "int printPool(int)", "int outputByte(int)", "int undo()", "int saveState()", "int restoreState()",
    };

    public static void main(String[] args) {
        Checks checks = new Checks();
        TreeSet<String> open = new TreeSet<>();
        TreeSet<String> openNames = new TreeSet<>();
        List<String> twice = new ArrayList<>();
        for (Method method : PoolScaler.class.getDeclaredMethods()) {
            if (!Modifier.isPrivate(method.getModifiers()) && !method.isSynthetic()) {
                open.add(signature(method));
                openNames.add(method.getName());
            }
        }
        for (Method method : PoolScaler.class.getDeclaredMethods()) {
            if (Modifier.isPrivate(method.getModifiers()) && openNames.contains(method.getName())) {
                twice.add(method.getName());
            }
        }
        checks.due("the methods that are not private", new TreeSet<>(Arrays.asList(FACE)), () -> open);
        checks.due("the private methods with a name of the face", List.of(), () -> twice);
        checks.due("the fields that are not private", "[NO_ERROR, NO_POOL, OUT_OF_RANGE, SYNTAX, TOO_MANY, TWICE]",
            () -> openNames(PoolScaler.class.getDeclaredFields()).toString());
        checks.due("the constructors", 1, () -> PoolScaler.class.getDeclaredConstructors().length);
        checks.due("public final", Modifier.PUBLIC | Modifier.FINAL, () -> PoolScaler.class.getModifiers());
        checks.due("the class above", Object.class, () -> PoolScaler.class.getSuperclass());
        checks.due("the constants", "0 1 2 3 4 5", () -> PoolScaler.NO_ERROR + " " + PoolScaler.SYNTAX + " "
            + PoolScaler.OUT_OF_RANGE + " " + PoolScaler.TWICE + " " + PoolScaler.TOO_MANY + " " + PoolScaler.NO_POOL);
        checks.end();
    }

    private static String signature(Method method) {
        StringBuilder text = new StringBuilder(method.getReturnType() + " " + method.getName() + "(");
        for (Class<?> type : method.getParameterTypes()) {
            text.append(text.charAt(text.length() - 1) == '(' ? "" : ",").append(type);
        }
        return text.append(')').toString();
    }

    private static TreeSet<String> openNames(Member[] members) {
        TreeSet<String> names = new TreeSet<>();
        for (Member member : members) {
            if (!Modifier.isPrivate(member.getModifiers()) && !member.isSynthetic()) {
                names.add(member.getName());
            }
        }
        return names;
    }
}
