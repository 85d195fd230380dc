import java.lang.reflect.Constructor;
import java.lang.reflect.Field;
import java.lang.reflect.Method;
import java.lang.reflect.Modifier;
import java.util.Set;
import java.util.TreeSet;

/** The public face, and that nothing else of the class is seen from outside. */
public final class FaceTest {
    private static final String[] FACE = {
        "int row(int,boolean)",
        "int set(int,int,long)",
        "int whole(int,int,long)",
        "long get(int,int)",
        "long cut(int,int,boolean)",
        "int compare(int,int,int)",
        "int between(int,int,int,int)",
        "int total(int,int,int)",
        "int sort(int,int)",
        "int act(int,int,int,int,int)",
        "int step(int,int,int)",
        "int least(int)",
        "int greatest(int)",
        "long sum(int,int)",
        "int find(int,long)",
        "int interval(int,int,int,int)",
        "int move(int,int,int,int,boolean)",
        "int status()",
    };

    public static void main(String[] args) {
        Class<?> bench = ReckonBench.class;
        Checks.due("public final class", bench.getModifiers(), Modifier.PUBLIC | Modifier.FINAL);
        Constructor<?>[] made = bench.getDeclaredConstructors();
        Checks.due("constructors", made.length, 1);
        Checks.due("the constructor is public", made[0].getModifiers(), Modifier.PUBLIC);
        Checks.due("its parameters", made[0].getParameterCount(), 0);
        methods(bench);
        for (Field field : bench.getDeclaredFields()) {
            Checks.due("private: " + field, field.getModifiers() & Modifier.PRIVATE, Modifier.PRIVATE);
            staticOnesAreFinal(field);
        }
        inside(bench);
        Checks.end();
    }

    private static void methods(Class<?> bench) {
        Set<String> wanted = Set.of(FACE);
        Set<String> names = new TreeSet<>();
        int found = 0;
        for (Method method : bench.getDeclaredMethods()) {
            if (Modifier.isPrivate(method.getModifiers())) {
                continue;
            }
            Checks.due("in the face: " + method, wanted.contains(told(method)) ? 1 : 0, 1);
            Checks.due("public: " + method, method.getModifiers(), Modifier.PUBLIC);
            names.add(method.getName());
            found++;
        }
        Checks.due("methods of the face", found, FACE.length);
        noPrivateNamesake(bench, names);
        for (Class<?> inside : bench.getDeclaredClasses()) {
            noPrivateNamesake(inside, names);
        }
    }

    private static void noPrivateNamesake(Class<?> holder, Set<String> names) {
        for (Method method : holder.getDeclaredMethods()) {
            if (Modifier.isPrivate(method.getModifiers())) {
                Checks.due("a name of its own: " + method, names.contains(method.getName()) ? 1 : 0, 0);
            }
        }
    }

    private static void inside(Class<?> bench) {
        for (Class<?> inside : bench.getDeclaredClasses()) {
            int seen = inside.getModifiers() & (Modifier.PUBLIC | Modifier.PROTECTED);
            Checks.due("not seen from outside: " + inside, seen, 0);
            Checks.due("static: " + inside, inside.getModifiers() & Modifier.STATIC, Modifier.STATIC);
            for (Field field : inside.getDeclaredFields()) {
                staticOnesAreFinal(field);
            }
        }
    }

    private static void staticOnesAreFinal(Field field) {
        if (Modifier.isStatic(field.getModifiers())) {
            Checks.due("final: " + field, field.getModifiers() & Modifier.FINAL, Modifier.FINAL);
        }
    }

    private static String told(Method method) {
        StringBuilder text = new StringBuilder();
        text.append(method.getReturnType().getName()).append(' ').append(method.getName()).append('(');
        String between = "";
        for (Class<?> type : method.getParameterTypes()) {
            text.append(between).append(type.getName());
            between = ",";
        }
        return text.append(')').toString();
    }
}
