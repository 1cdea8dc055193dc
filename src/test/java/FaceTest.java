import java.lang.reflect.Field;
import java.lang.reflect.Method;
import java.lang.reflect.Modifier;
import java.util.Arrays;
import java.util.TreeSet;

/** The public face: the class, its constants, its constructor and its seventeen methods, and no more. */
public final class FaceTest {
    private static final String[] METHODS = {
        "put 4", "take 2", "clear 1", "point 3", "hull 2", "corner 2", "sum 3", "sumCorner 4", "cells 3",
        "cell 4", "slope 4", "low 3", "fan 2", "roots 3", "image 1", "restore 1", "count 1",
    };

    public static void main(String[] args) {
        int modifiers = MixedCells.class.getModifiers();
        Due.holds("the class is public and final", Modifier.isPublic(modifiers) && Modifier.isFinal(modifiers));
        Due.holds("it stands alone, without a package", MixedCells.class.getSuperclass() == Object.class
                && MixedCells.class.getInterfaces().length == 0 && MixedCells.class.getPackageName().isEmpty());
        constants();
        constructor();
        methods();
        Due.end();
    }

    private static void constants() {
        Due.is("UNKNOWN", MixedCells.UNKNOWN, -1);
        Due.is("OUTSIDE", MixedCells.OUTSIDE, -2);
        Due.is("STATE", MixedCells.STATE, -3);
        Due.is("FULL", MixedCells.FULL, -4);
        Due.is("NONE", MixedCells.NONE, -6);
        TreeSet<String> open = new TreeSet<>();
        for (Field f : MixedCells.class.getDeclaredFields()) {
            if (!Modifier.isPrivate(f.getModifiers())) {
                open.add(f.getName());
                Due.is(f.getName() + " is a public constant of int",
                        f.getType() == int.class ? f.getModifiers() : 0,
                        Modifier.PUBLIC | Modifier.STATIC | Modifier.FINAL);
            }
        }
        Due.holds("no other field is open: " + open,
                open.equals(new TreeSet<>(Arrays.asList("UNKNOWN", "OUTSIDE", "STATE", "FULL", "NONE"))));
    }

    private static void constructor() {
        Due.is("constructors", MixedCells.class.getDeclaredConstructors().length, 1);
        Due.is("public constructors", MixedCells.class.getConstructors().length, 1);
        Due.is("its numbers", MixedCells.class.getConstructors()[0].getParameterCount(), 0);
    }

    private static void methods() {
        TreeSet<String> open = new TreeSet<>();
        for (Method m : MixedCells.class.getDeclaredMethods()) {
            if (!Modifier.isPrivate(m.getModifiers())) {
                open.add(m.getName() + " " + m.getParameterCount());
                Due.holds(m.getName() + " is public, not static, and answers an int",
                        Modifier.isPublic(m.getModifiers()) && !Modifier.isStatic(m.getModifiers())
                                && m.getReturnType() == int.class);
                for (Class<?> type : m.getParameterTypes()) {
                    Due.holds(m.getName() + " is asked with numbers of int", type == int.class);
                }
                Due.is(m.getName() + " names no exceptions", m.getExceptionTypes().length, 0);
            } else {
                Due.holds("the private " + m.getName() + " bears no public name", !isPublicName(m.getName()));
            }
        }
        Due.holds("the open methods: " + open, open.equals(new TreeSet<>(Arrays.asList(METHODS))));
    }

    private static boolean isPublicName(String name) {
        for (String method : METHODS) {
            if (method.startsWith(name + " ")) {
                return true;
            }
        }
        return false;
    }
}
