import java.lang.reflect.Constructor;
import java.lang.reflect.Field;
import java.lang.reflect.Method;
import java.lang.reflect.Modifier;
import java.util.ArrayList;
import java.util.Collections;
import java.util.List;

/** The public face: every member of the document with its name and types, and no member beside them. */
public final class FaceTest {
    private static final String[] METHODS = {
        "boolean isCancelled(int)",
        "int available(int,int)",
        "int cancel(int)",
        "int close(int)",
        "int dayOf(int)",
        "int issue(int,int,int)",
        "int kindOf(int)",
        "int land(int,int,int,long)",
        "int layerOrigin(int,int,int)",
        "int layerQuantity(int,int,int)",
        "int layers(int,int)",
        "int movements()",
        "int onHand(int,int)",
        "int partOf(int,int)",
        "int placeOf(int)",
        "int receive(int,int,int,int)",
        "int revalue(int,int,int,int)",
        "int setWeight(int,int)",
        "long costOf(int,boolean)",
        "long expensed(int,int,boolean)",
        "long issued(int,int,boolean)",
        "long layerCost(int,int,int)",
        "long received(int,int)",
        "long revalued(int,int,boolean)",
        "long value(int,int,boolean)",
    };

    private static final String[] CONSTANTS = {
        "BY_COST", "BY_QUANTITY", "BY_WEIGHT", "ISSUE", "LANDED_COST", "NONE", "RECEIPT", "REVALUATION",
    };

    public static void main(String[] args) {
        Check check = new Check();
        check.due("RECEIPT", Layerbook.RECEIPT, 0);
        check.due("ISSUE", Layerbook.ISSUE, 1);
        check.due("REVALUATION", Layerbook.REVALUATION, 2);
        check.due("LANDED_COST", Layerbook.LANDED_COST, 3);
        check.due("BY_QUANTITY", Layerbook.BY_QUANTITY, 0);
        check.due("BY_COST", Layerbook.BY_COST, 1);
        check.due("BY_WEIGHT", Layerbook.BY_WEIGHT, 2);
        check.due("NONE", Layerbook.NONE, -1);
        same(check, "methods", methods(), METHODS);
        same(check, "constants", constants(), CONSTANTS);
        check.due("public and final", Layerbook.class.getModifiers(), Modifier.PUBLIC | Modifier.FINAL);
        Constructor<?>[] constructors = Layerbook.class.getDeclaredConstructors();
        check.due("constructors", constructors.length, 1);
        check.due("the constructor's modifiers", constructors[0].getModifiers(), Modifier.PUBLIC);
        check.due("the constructor's parameters", constructors[0].getParameterCount(), 0);
        check.end();
    }

    private static List<String> methods() {
        List<String> names = new ArrayList<>();
        for (Method method : Layerbook.class.getDeclaredMethods()) {
            if (!Modifier.isPrivate(method.getModifiers())) {
                List<String> types = new ArrayList<>();
                for (Class<?> type : method.getParameterTypes()) {
                    types.add(type.getName());
                }
                names.add(method.getReturnType() + " " + method.getName() + "(" + String.join(",", types) + ")");
            }
        }
        Collections.sort(names);
        return names;
    }

    private static List<String> constants() {
        List<String> names = new ArrayList<>();
        for (Field field : Layerbook.class.getDeclaredFields()) {
            if (!Modifier.isPrivate(field.getModifiers())) {
                names.add(field.getName());
            }
        }
        Collections.sort(names);
        return names;
    }

    private static void same(Check check, String what, List<String> got, String[] want) {
        boolean same = got.equals(List.of(want));
        if (!same) {
            System.out.println(what + ": " + got);
        }
        check.due("the face has the document's " + what, Check.bit(same), 1);
    }
}
