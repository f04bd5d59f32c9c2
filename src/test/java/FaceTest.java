import java.lang.reflect.Constructor;
import java.lang.reflect.Field;
import java.lang.reflect.Method;
import java.lang.reflect.Modifier;
import java.util.Set;
import java.util.TreeSet;

/** The public face: just the document's members, nothing else to be seen from outside. */
public final class FaceTest {
    private static final String FACE = "ahead(int,int):int chance(int,int,int):int against(int,int,int):int "
            + "atMost():int back():int bounds(int):int child(int):int count(int):int falls(int):int fault(int):int "
            + "feed(int,int,int,int,int):int go(int):int house(int,int):int hush(int,int):int keep():int "
            + "known(int):boolean law(int,int):long left(int):int letGo(int):int lives(int,int,int):long "
            + "marry(int,int):boolean match(int):int most():int named(int,int):int nextPart(int):int "
            + "nextRaise(int):int nod(int):int noneLeft():int outbid():int part(int,int):int rival(int):int "
            + "same():int sameIn(int):int see(int,int,boolean):int shares(int,int):int "
            + "stays(int,int,int,int,int):int still():int strike(int):int text(int):int tried(int,int,int):int "
            + "turn():int undo():int when(int,int,int):int will(int,int):boolean";

    public static void main(String[] args) {
        Check check = new Check();
        Set<String> want = new TreeSet<>(Set.of(FACE.split(" ")));
        Set<String> got = new TreeSet<>();
        Set<String> publicNames = new TreeSet<>();
        for (Method m : BidLines.class.getDeclaredMethods()) {
            if (Modifier.isPublic(m.getModifiers())) {
                got.add(shape(m));
                publicNames.add(m.getName());
            } else if (!m.isSynthetic()) {
                check.due("private " + m.getName(), Modifier.isPrivate(m.getModifiers()), true);
            }
        }
        if (!want.equals(got)) {
            System.out.println("due: " + want + "\ngot: " + got);
        }
        check.due("the face is as due", want.equals(got), true);
        check.due("methods", want.size(), 44);
        checkInside(check, BidLines.class, publicNames);
        for (Class<?> inside : BidLines.class.getDeclaredClasses()) {
            check.due("static " + inside.getName(), Modifier.isStatic(inside.getModifiers()), true);
            check.due("not public " + inside.getName(), Modifier.isPublic(inside.getModifiers()), false);
            checkInside(check, inside, publicNames);
        }
        checkMembers(check);
        check.finish("FaceTest");
    }

    private static String shape(Method m) {
        StringBuilder types = new StringBuilder();
        for (Class<?> t : m.getParameterTypes()) {
            types.append(types.length() == 0 ? "" : ",").append(t.getName());
        }
        return m.getName() + "(" + types + "):" + m.getReturnType().getName();
    }

    private static void checkInside(Check check, Class<?> c, Set<String> publicNames) {
        for (Method m : c.getDeclaredMethods()) {
            if (!Modifier.isPublic(m.getModifiers())) {
                check.due(m.getName() + " has a name of the face", publicNames.contains(m.getName()), false);
            }
            check.due(m.getName() + " has seven parameters at most", m.getParameterCount() <= 7, true);
        }
        for (Field f : c.getDeclaredFields()) {
            if (Modifier.isStatic(f.getModifiers())) {
                check.due("final " + f.getName(), Modifier.isFinal(f.getModifiers()), true);
            }
        }
    }

    private static void checkMembers(Check check) {
        int modifiers = BidLines.class.getModifiers();
        check.due("public final", Modifier.isPublic(modifiers) && Modifier.isFinal(modifiers), true);
        for (Field f : BidLines.class.getDeclaredFields()) {
            boolean constant = f.getName().equals("NONE");
            check.due("field " + f.getName(), Modifier.isPublic(f.getModifiers()), constant);
            check.due("field private " + f.getName(), Modifier.isPrivate(f.getModifiers()), !constant);
        }
        Constructor<?>[] made = BidLines.class.getDeclaredConstructors();
        check.due("constructors", made.length, 1);
        check.due("constructor", Modifier.isPublic(made[0].getModifiers()) && made[0].getParameterCount() == 0, true);
        check.due("NONE", BidLines.NONE, -1);
    }
}
