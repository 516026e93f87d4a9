import java.io.IOException;
import java.lang.reflect.Array;
import java.lang.reflect.Field;
import java.lang.reflect.Modifier;
import java.nio.file.Files;
import java.nio.file.Path;
import java.util.ArrayDeque;
import java.util.Collections;
import java.util.Deque;
import java.util.IdentityHashMap;
import java.util.Set;

/** The one room of all calls: an object takes its whole room in its constructor, and calls make exceptions alone. */
public final class RoomTest {
    public static void main(String[] args) throws IOException, IllegalAccessException {
        TavernStools x = new TavernStools();
        Size first = new Size(x);
        Checks.due("room: few objects", true, first.objects > 1 && first.objects < 100);
        Checks.due("room: few fields and elements", true, first.elements > 60 && first.elements < 10000);
        Checks.due("room: as many objects after 512 calls", first.objects, sizeAfter(x, 512).objects);
        Checks.due("room: as many elements after 512 calls", first.elements, new Size(x).elements);
        callsMakeExceptionsAlone();
        Checks.end();
    }

    private static Size sizeAfter(TavernStools x, int calls) throws IllegalAccessException {
        String text = "s9/99;g9*200;p0>0;n;c0;b0-0";
        for (int call = 0; call < calls; call += 4) {
            char next = text.charAt(call / 4 % text.length());
            Twins.outcome(x, y -> y.append(next));
            Twins.outcome(x, call % 108 == 104 ? TavernStools::run : TavernStools::night);
            Twins.outcome(x, call % 8 == 0 ? TavernStools::save : TavernStools::line);
            Twins.outcome(x, y -> y.bestSwap(true));
        }
        return new Size(x);
    }

    private static void callsMakeExceptionsAlone() throws IOException {
        for (String line : Files.readAllLines(Path.of("src/main/java/TavernStools.java"))) {
            boolean makes = line.contains(" new ") && !line.trim().startsWith("throw new ");
            boolean isInConstructor = line.trim().equals("rooms[room] = new Tavern();");
            boolean isField = line.trim().matches("(private )?final \\w+(\\[\\])? \\w+ = new .*");
            Checks.due("room: made once, " + line.trim(), true, !makes || isInConstructor || isField);
        }
    }

    /** How many objects and arrays an object holds, and how many fields and elements these have. */
    private static final class Size {
        private final Set<Object> seen = Collections.newSetFromMap(new IdentityHashMap<>());
        private final Deque<Object> waiting = new ArrayDeque<>();
        private int elements = 0;
        private int objects = 0;

        Size(Object whole) throws IllegalAccessException {
            meet(whole);
            while (!waiting.isEmpty()) {
                Object one = waiting.remove();
                objects++;
                if (one.getClass().isArray()) {
                    elementsOf(one);
                } else {
                    fieldsOf(one);
                }
            }
        }

        private void meet(Object one) {
            if (one != null && seen.add(one)) {
                waiting.add(one);
            }
        }

        private void elementsOf(Object array) {
            elements += Array.getLength(array);
            for (int index = 0; index < Array.getLength(array); index++) {
                if (!array.getClass().getComponentType().isPrimitive()) {
                    meet(Array.get(array, index));
                }
            }
        }

        private void fieldsOf(Object one) throws IllegalAccessException {
            for (Field field : one.getClass().getDeclaredFields()) {
                if (!Modifier.isStatic(field.getModifiers())) {
                    field.setAccessible(true);
                    elements++;
                    if (!field.getType().isPrimitive()) {
                        meet(field.get(one));
                    }
                }
            }
        }
    }
}
