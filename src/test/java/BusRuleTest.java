import java.lang.reflect.Field;
import java.lang.reflect.Method;

/**
 * "If both want, the core's is begun when the request begun before this one was the buffer's or there was none, else
 * the buffer's." No run of calls leads to two of the three cases, so this test puts the parts inside a chip into them.
 */
public final class BusRuleTest {
    private static final int DATA = 2;
    private static final int STORE = 4;

    private final CycleChip chip = new CycleChip(1, 1);
    private final Object bus;
    private final Object buffer;

    private BusRuleTest() throws ReflectiveOperationException {
        bus = part("bus");
        buffer = part("buffer");
    }

    public static void main(String[] args) throws ReflectiveOperationException {
        noneBefore();
        coreBefore();
        bufferBefore();
        Due.end();
    }

    private static void noneBefore() throws ReflectiveOperationException {
        BusRuleTest test = new BusRuleTest();
        test.coreWants();
        test.bufferWants();
        test.begins("none before, both want", 0, DATA);
    }

    private static void coreBefore() throws ReflectiveOperationException {
        BusRuleTest test = new BusRuleTest();
        test.coreWants();
        test.begins("the core alone", 0, DATA);
        test.finishes(4);
        test.coreWants();
        test.bufferWants();
        test.begins("the core's before, both want", 4, STORE);
        test.finishes(5);
        test.begins("the core still wants", 5, DATA);
    }

    private static void bufferBefore() throws ReflectiveOperationException {
        BusRuleTest test = new BusRuleTest();
        test.bufferWants();
        test.begins("the buffer alone", 0, STORE);
        test.finishes(1);
        test.coreWants();
        test.bufferWants();
        test.begins("the buffer's before, both want", 1, DATA);
        test.finishes(5);
        test.begins("the buffer still wants", 5, STORE);
    }

    private Object part(String name) throws ReflectiveOperationException {
        Field field = CycleChip.class.getDeclaredField(name);
        field.setAccessible(true);
        return field.get(chip);
    }

    private static void tell(Object part, String name, int... numbers) throws ReflectiveOperationException {
        for (Method m : part.getClass().getDeclaredMethods()) {
            if (m.getName().equals(name)) {
                m.setAccessible(true);
                Object[] all = new Object[numbers.length];
                for (int k = 0; k < all.length; k++) {
                    all[k] = numbers[k];
                }
                m.invoke(part, all);
                return;
            }
        }
        Due.same("there is a method " + name, false, true);
    }

    private void coreWants() throws ReflectiveOperationException {
        tell(bus, "want", DATA, 0);
    }

    private void bufferWants() throws ReflectiveOperationException {
        tell(buffer, "add", 0, 7);
    }

    private void finishes(int cycle) throws ReflectiveOperationException {
        tell(bus, "finish", cycle);
        Due.same("the bus after a request is done", chip.bus(), 0);
    }

    private void begins(String what, int cycle, int want) throws ReflectiveOperationException {
        tell(bus, "begin", cycle);
        Due.same(what, chip.bus(), want);
    }
}
