import java.io.IOException;
import java.lang.reflect.Field;
import java.lang.reflect.Method;
import java.lang.reflect.Modifier;
import java.nio.file.Files;
import java.nio.file.Path;
import java.util.regex.Matcher;
import java.util.regex.Pattern;

/** README.md says how to use the class: its example answers as it says, and it tells of each call and constant. */
public final class ReadmeTest {
    private static final Pattern CALL = Pattern.compile("m\\.(\\w+)\\((.*?)\\);\\s*// (-?\\d+)\\b.*");

    public static void main(String[] args) throws IOException, ReflectiveOperationException {
        String text = Files.readString(Path.of("README.md"));
        example(text);
        faceIsTold(text);
        Due.end();
    }

    private static void example(String text) throws ReflectiveOperationException {
        Matcher block = Pattern.compile("(?s)```java\n(.*?)```").matcher(text);
        Due.holds("there is an example", block.find());
        MixedCells m = new MixedCells();
        String[] lines = block.group(1).split("\n");
        Due.holds("it makes the object first", lines[0].equals("MixedCells m = new MixedCells();"));
        for (int i = 1; i < lines.length; i++) {
            Matcher call = CALL.matcher(lines[i]);
            boolean isCall = call.matches();
            Due.holds("a call and its answer: " + lines[i], isCall);
            if (isCall) {
                Due.is(lines[i], answer(m, call.group(1), call.group(2).split(", ")), Integer.parseInt(call.group(3)));
            }
        }
    }

    private static int answer(MixedCells m, String name, String[] numbers) throws ReflectiveOperationException {
        Class<?>[] types = new Class<?>[numbers.length];
        Object[] values = new Object[numbers.length];
        for (int i = 0; i < numbers.length; i++) {
            types[i] = int.class;
            values[i] = Integer.valueOf(numbers[i]);
        }
        return (Integer) MixedCells.class.getMethod(name, types).invoke(m, values);
    }

    private static void faceIsTold(String text) throws IllegalAccessException {
        for (Method method : MixedCells.class.getDeclaredMethods()) {
            if (Modifier.isPublic(method.getModifiers())) {
                Due.holds(method.getName() + " is told of", text.contains("`" + method.getName() + "("));
            }
        }
        for (Field field : MixedCells.class.getFields()) {
            Due.holds(field.getName() + " is told of with its number",
                    Pattern.compile("`" + field.getName() + "`[ |,]+" + field.getInt(null) + "\\b").matcher(text).find());
        }
        Due.holds("how long an object is used", text.contains("at most 512 calls"));
    }
}
