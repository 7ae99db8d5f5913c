import java.lang.annotation.ElementType;
import java.lang.annotation.Retention;
import java.lang.annotation.RetentionPolicy;
import java.lang.annotation.Target;

/** The section of the document, by its title, whose sentences a class tests. */
@Retention(RetentionPolicy.RUNTIME)
@Target(ElementType.TYPE)
@interface Section {
    String value();
}
