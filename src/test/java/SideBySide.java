import java.lang.reflect.InvocationTargetException;
import java.lang.reflect.Method;
import java.lang.reflect.Modifier;
import java.util.ArrayList;
import java.util.Arrays;
import java.util.HashMap;
import java.util.List;
import java.util.Map;

/** An Overwalks and a CollectionsModel that get the same calls; what both answer is compared. */
final class SideBySide {
    /** One call: the method's name and its arguments. */
    static final class Call {
        final String name;
        final Object[] arguments;
        private final Method ofProgram;
        private final Method ofModel;

        Call(String name, Object... arguments) {
            this.name = name;
            this.arguments = arguments;
            ofProgram = OF_PROGRAM.get(name);
            ofModel = OF_MODEL.get(name);
        }

        @Override
        public String toString() {
            String all = Arrays.toString(arguments);
            return name + "(" + all.substring(1, all.length() - 1) + ")";
        }
    }

    private static final Map<String, Method> OF_PROGRAM = faceOf(Overwalks.class, null);
    private static final Map<String, Method> OF_MODEL = faceOf(CollectionsModel.class, OF_PROGRAM);

    private final Overwalks program = new Overwalks();
    private final CollectionsModel model = new CollectionsModel();
    private final List<Call> calls = new ArrayList<>();
    private Object lastAnswer;

    /** Makes the call on both; tells whether answer and digest() are the same. */
    boolean agreesOn(Call call) {
        return answersAlike(call) && hasTheSameDigest();
    }

    boolean wasThrownOrRefused() {
        return lastAnswer instanceof Class || lastAnswer.equals(Checks.REFUSED)
                || lastAnswer.equals("!");
    }

    /** Makes all these calls on both; digest() is compared behind the last one alone. */
    boolean agreesOnAll(List<Call> some) {
        for (Call call : some) {
            if (!answersAlike(call)) {
                return false;
            }
        }
        return hasTheSameDigest();
    }

    private boolean answersAlike(Call call) {
        calls.add(call);
        lastAnswer = answer(call.ofProgram, program, call.arguments);
        Object want = answer(call.ofModel, model, call.arguments);
        if (!lastAnswer.equals(want)) {
            Checks.due(calls + ", the last of them", lastAnswer, want);
            return false;
        }
        return true;
    }

    private boolean hasTheSameDigest() {
        if (program.digest() != model.digest()) {
            Checks.due("digest() behind " + calls, program.digest(), model.digest());
            return false;
        }
        return true;
    }

    private static Object answer(Method method, Object on, Object[] arguments) {
        try {
            return method.invoke(on, arguments);
        } catch (InvocationTargetException e) {
            return e.getCause().getClass();
        } catch (IllegalAccessException e) {
            throw new AssertionError(e);
        }
    }

    /** The methods by name: all public ones, or those that another face has too. */
    private static Map<String, Method> faceOf(Class<?> type, Map<String, Method> face) {
        Map<String, Method> byName = new HashMap<>();
        for (Method method : type.getDeclaredMethods()) {
            String name = method.getName();
            // The model's helpers may bear a name of the face, but not with its parameters.
            boolean isOfFace = face == null
                    ? Modifier.isPublic(method.getModifiers())
                    : face.containsKey(name) && !Modifier.isStatic(method.getModifiers())
                        && Arrays.equals(method.getParameterTypes(),
                            face.get(name).getParameterTypes());
            if (isOfFace) {
                byName.put(name, method);
            }
        }
        return byName;
    }
}
